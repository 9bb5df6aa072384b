/-! ===== 75c: the class: methods as functions on memories (by wip/whole2/law73.py, dc.py): 134 X4_fieldName, 145 X4_strength, 147 X4_binary, 165 X7_setBreaks, 120 X4_endLoop, 125 X4_moreNames, 129 X4_adjust, 143 X4_assign, 132 X4_cutIfNeeded, 118 X4_breakStatement, 142 X4_notePlace, 80 X4_block, 115 X4_closedBlock, 116 X4_statement, 117 X4_returnStatement, 119 X4_whileStatement, 121 X4_repeatStatement ===== -/
/-- X4_fieldName -/
def dk_134 (n : Nat) (F : wq_F) : Option (Nat × wq_F) :=
  (dk_136 F).bind fun y1 =>
  (dk_77 n y1.2).bind fun y5 =>
  (dk_135 y5.2).bind fun y9 =>
  (dk_77 n y9.2).bind fun y13 =>
  od_up y13.2 56 7 11 fun F17 =>
  (dk_84 F17).bind fun y20 =>
  od_let ((y20.1 + (4294967296 - 2)) % 4294967296) fun y24 =>
  od_up y20.2 56 8 y24 fun F27 =>
  od_up F27 56 9 (y1.2 57 6) fun F30 =>
  some (0, F30)
theorem dkT_134 {d n : Nat} {F : wq_F} (hT : xm_T F) {x : Nat × wq_F} (h : dk_134 n F = some x) : mq (d + 6 + 1) 134 [36893488147419103288] xm_sh F (wkN xm_T xm_sh x) := by
  have e : ev_ent [36893488147419103288] = [36893488147419103288] := by
    rfl
  refine mq_of (maxL := 2) (rt := none) (code := (ev_un al_mX4_fieldName.2.2.2.2)) (L := [36893488147419103288, 73786976294838206464]) rfl (by rw [e]; exact Nat.le_of_ble_eq_true rfl) (by rw [e]; rfl) ?_
  unfold dk_134 at h
  refine wq_aload_n rfl rfl rfl ?_
  obtain ⟨y1, e2, h⟩ := od_bindE h
  refine wd_virtN (q := 56) (y := y1) (as := [36893488147419103288]) rfl rfl rfl (by decide) (Nat.le_of_ble_eq_true rfl) (Nat.le_of_ble_eq_true rfl) rfl (Nat.le_of_ble_eq_true rfl) rfl (dkT_136 hT e2) (fun T4 => ?_)
  refine wq_aload_n rfl rfl rfl ?_
  refine xm_getR (v := 36893488147419103289) (q := 56) rfl rfl (by decide) (by decide) (T4.r (k := 56) 0 56 rfl (by decide) rfl) ?_
  refine xm_getI (q := 57) rfl rfl (by decide) (by decide) ?_
  refine wq_istore_n rfl (T4.i (k := 57) 6 rfl (by decide) rfl) (Nat.le_of_ble_eq_true rfl) (Or.inr ⟨_, rfl, rfl⟩) (L' := [36893488147419103288, y1.2 57 6]) rfl ?_
  refine wq_aload_n rfl rfl rfl ?_
  obtain ⟨y5, e6, h⟩ := od_bindE h
  refine wd_virtN (q := 56) (y := y5) (as := [36893488147419103288]) rfl rfl rfl (by decide) (Nat.le_of_ble_eq_true rfl) (Nat.le_of_ble_eq_true rfl) rfl (Nat.le_of_ble_eq_true rfl) rfl (dkT_77 T4 e6) (fun T8 => ?_)
  refine wq_aload_n rfl rfl rfl ?_
  obtain ⟨y9, e10, h⟩ := od_bindE h
  refine wd_virtN (q := 56) (y := y9) (as := [36893488147419103288]) rfl rfl rfl (by decide) (Nat.le_of_ble_eq_true rfl) (Nat.le_of_ble_eq_true rfl) rfl (Nat.le_of_ble_eq_true rfl) rfl (dkT_135 T8 e10) (fun T12 => ?_)
  refine wq_aload_n rfl rfl rfl ?_
  obtain ⟨y13, e14, h⟩ := od_bindE h
  refine wd_virtN (q := 56) (y := y13) (as := [36893488147419103288]) rfl rfl rfl (by decide) (Nat.le_of_ble_eq_true rfl) (Nat.le_of_ble_eq_true rfl) rfl (Nat.le_of_ble_eq_true rfl) rfl (dkT_77 T12 e14) (fun T16 => ?_)
  refine wq_aload_n rfl rfl rfl ?_
  refine wq_bipush rfl rfl ?_
  obtain ⟨F17, e18, h⟩ := od_upE h
  refine xmE_put (q := 56) rfl rfl (by decide) (by decide) (wq_I (by decide)) e18 ?_
  have T19 : xm_T F17 := wd_T e18 (T16.uf (k := 56) (f := 7) (c := 0) (v := 11) rfl (by decide) rfl (show 11 < 4294967296 from (by decide)))
  refine wq_aload_n rfl rfl rfl ?_
  refine wq_aload_n rfl rfl rfl ?_
  refine xm_getR (v := 36893488147419103291) (q := 56) rfl rfl (by decide) (by decide) (T19.r (k := 56) 3 58 rfl (by decide) rfl) ?_
  obtain ⟨y20, e21, h⟩ := od_bindE h
  refine wd_virtI (q := 59) (y := y20) (as := [36893488147419103291]) rfl rfl rfl (by decide) (Nat.le_of_ble_eq_true rfl) (Nat.le_of_ble_eq_true rfl) rfl (Nat.le_of_ble_eq_true rfl) rfl (dkT_84 T19 e21) (fun p22 T23 => ?_)
  refine wq_iconst rfl rfl ?_
  refine wq_isubZ rfl p22 (by decide) (z := (y20.1 + (4294967296 - 2)) % 4294967296) rfl ?_
  obtain ⟨y24, e25, h⟩ := od_letE h
  refine wq_top e25.symm ?_
  have p26 : y24 < 4294967296 := wd_lt e25 (Nat.mod_lt _ (by decide))
  obtain ⟨F27, e28, h⟩ := od_upE h
  refine xmE_put (q := 56) rfl rfl (by decide) (by decide) (wq_I p26) e28 ?_
  have T29 : xm_T F27 := wd_T e28 (T23.uf (k := 56) (f := 8) (c := 0) (v := y24) rfl (by decide) rfl (show y24 < 4294967296 from p26))
  refine wq_aload_n rfl rfl rfl ?_
  refine wq_iload_n rfl rfl (T4.i (k := 57) 6 rfl (by decide) rfl) ?_
  obtain ⟨F30, e31, h⟩ := od_upE h
  refine xmE_put (q := 56) rfl rfl (by decide) (by decide) (wq_I (T4.i (k := 57) 6 rfl (by decide) rfl)) e31 ?_
  have T32 : xm_T F30 := wd_T e31 (T29.uf (k := 56) (f := 9) (c := 0) (v := y1.2 57 6) rfl (by decide) rfl (show y1.2 57 6 < 4294967296 from (T4.i (k := 57) 6 rfl (by decide) rfl)))
  exact wq_ret rfl (wkON h T32)
/-- X4_strength -/
def dk_145 (F : wq_F) : Option (Nat × wq_F) :=
  od_let (F 57 4) fun y1 =>
  if y1 = 10 then
    some (2, F)
  else if y1 = 11 then
    some (0, F)
  else if y1 = 12 then
    some (0, F)
  else if y1 = 13 then
    some (0, F)
  else if y1 = 14 then
    some (0, F)
  else if y1 = 15 then
    some (0, F)
  else if y1 = 16 then
    some (0, F)
  else if y1 = 17 then
    some (0, F)
  else if y1 = 18 then
    some (0, F)
  else if y1 = 19 then
    some (0, F)
  else if y1 = 20 then
    some (0, F)
  else if y1 = 21 then
    some (0, F)
  else if y1 = 22 then
    some (0, F)
  else if y1 = 23 then
    some (0, F)
  else if y1 = 24 then
    some (1, F)
  else if y1 = 25 then
    some (0, F)
  else if y1 = 26 then
    some (0, F)
  else if y1 = 27 then
    some (0, F)
  else if y1 = 28 then
    some (0, F)
  else if y1 = 29 then
    some (0, F)
  else if y1 = 30 then
    some (0, F)
  else if y1 = 31 then
    some (0, F)
  else if y1 = 32 then
    some (0, F)
  else if y1 = 33 then
    some (0, F)
  else if y1 = 34 then
    some (0, F)
  else if y1 = 35 then
    some (0, F)
  else if y1 = 36 then
    some (0, F)
  else if y1 = 37 then
    some (0, F)
  else if y1 = 38 then
    some (0, F)
  else if y1 = 39 then
    some (0, F)
  else if y1 = 40 then
    some (9, F)
  else if y1 = 41 then
    some (9, F)
  else if y1 = 42 then
    some (10, F)
  else if y1 = 43 then
    some (10, F)
  else if y1 = 44 then
    some (6, F)
  else if y1 = 45 then
    some (4, F)
  else if y1 = 46 then
    some (5, F)
  else if y1 = 47 then
    some (3, F)
  else if y1 = 48 then
    some (3, F)
  else if y1 = 49 then
    some (0, F)
  else if y1 = 50 then
    some (0, F)
  else if y1 = 51 then
    some (0, F)
  else if y1 = 52 then
    some (0, F)
  else if y1 = 53 then
    some (0, F)
  else if y1 = 54 then
    some (0, F)
  else if y1 = 55 then
    some (0, F)
  else if y1 = 56 then
    some (0, F)
  else if y1 = 57 then
    some (0, F)
  else if y1 = 58 then
    some (0, F)
  else if y1 = 59 then
    some (0, F)
  else if y1 = 60 then
    some (0, F)
  else if y1 = 61 then
    some (10, F)
  else if y1 = 62 then
    some (7, F)
  else if y1 = 63 then
    some (7, F)
  else if y1 = 64 then
    some (8, F)
  else if y1 = 65 then
    some (0, F)
  else if y1 = 66 then
    some (3, F)
  else if y1 = 67 then
    some (3, F)
  else if y1 = 68 then
    some (3, F)
  else if y1 = 69 then
    some (3, F)
  else 
  some (0, F)
theorem dkT_145 {d : Nat} {F : wq_F} (hT : xm_T F) {x : Nat × wq_F} (h : dk_145 F = some x) : mq (d + 0 + 1) 145 [36893488147419103288] xm_sh F (wkI xm_T xm_sh x) := by
  have e : ev_ent [36893488147419103288] = [36893488147419103288] := by
    rfl
  refine mq_of (maxL := 1) (rt := (some .int)) (code := (ev_un al_mX4_strength.2.2.2.2)) (L := [36893488147419103288]) rfl (by rw [e]; exact Nat.le_of_ble_eq_true rfl) (by rw [e]; rfl) ?_
  unfold dk_145 at h
  refine wq_aload_n rfl rfl rfl ?_
  refine xm_getR (v := 36893488147419103289) (q := 56) rfl rfl (by decide) (by decide) (hT.r (k := 56) 0 56 rfl (by decide) rfl) ?_
  refine xm_getI (q := 57) rfl rfl (by decide) (by decide) ?_
  obtain ⟨y1, e2, h⟩ := od_letE h
  refine wq_top e2.symm ?_
  have p3 : y1 < 4294967296 := wd_lt e2 (hT.i (k := 57) 4 rfl (by decide) rfl)
  have i4 : y1 < 10 ∨ 10 ≤ y1 := Nat.lt_or_ge _ _
  by_cases h5 : y1 = 10
  case pos =>
    replace h := od_pos h h5
    refine wq_top h5 ?_
    refine wq_tsw rfl (by decide) (tgt := 262) rfl ?_
    refine wq_iconst rfl rfl ?_
    exact wq_iret rfl (by decide) rfl (wkOI h hT (by decide))
  replace h := od_neg h h5
  have i6 : y1 < 10 ∨ 11 ≤ y1 := by omega
  clear i4
  by_cases h7 : y1 = 11
  case pos =>
    replace h := od_pos h h7
    refine wq_top h7 ?_
    refine wq_tsw rfl (by decide) (tgt := 285) rfl ?_
    refine wq_iconst rfl rfl ?_
    exact wq_iret rfl (wm_zlt (by decide)) rfl (wkOI h hT (wm_zlt (by decide)))
  replace h := od_neg h h7
  have i8 : y1 < 10 ∨ 12 ≤ y1 := by omega
  clear i6
  by_cases h9 : y1 = 12
  case pos =>
    replace h := od_pos h h9
    refine wq_top h9 ?_
    refine wq_tsw rfl (by decide) (tgt := 285) rfl ?_
    refine wq_iconst rfl rfl ?_
    exact wq_iret rfl (wm_zlt (by decide)) rfl (wkOI h hT (wm_zlt (by decide)))
  replace h := od_neg h h9
  have i10 : y1 < 10 ∨ 13 ≤ y1 := by omega
  clear i8
  by_cases h11 : y1 = 13
  case pos =>
    replace h := od_pos h h11
    refine wq_top h11 ?_
    refine wq_tsw rfl (by decide) (tgt := 285) rfl ?_
    refine wq_iconst rfl rfl ?_
    exact wq_iret rfl (wm_zlt (by decide)) rfl (wkOI h hT (wm_zlt (by decide)))
  replace h := od_neg h h11
  have i12 : y1 < 10 ∨ 14 ≤ y1 := by omega
  clear i10
  by_cases h13 : y1 = 14
  case pos =>
    replace h := od_pos h h13
    refine wq_top h13 ?_
    refine wq_tsw rfl (by decide) (tgt := 285) rfl ?_
    refine wq_iconst rfl rfl ?_
    exact wq_iret rfl (wm_zlt (by decide)) rfl (wkOI h hT (wm_zlt (by decide)))
  replace h := od_neg h h13
  have i14 : y1 < 10 ∨ 15 ≤ y1 := by omega
  clear i12
  by_cases h15 : y1 = 15
  case pos =>
    replace h := od_pos h h15
    refine wq_top h15 ?_
    refine wq_tsw rfl (by decide) (tgt := 285) rfl ?_
    refine wq_iconst rfl rfl ?_
    exact wq_iret rfl (wm_zlt (by decide)) rfl (wkOI h hT (wm_zlt (by decide)))
  replace h := od_neg h h15
  have i16 : y1 < 10 ∨ 16 ≤ y1 := by omega
  clear i14
  by_cases h17 : y1 = 16
  case pos =>
    replace h := od_pos h h17
    refine wq_top h17 ?_
    refine wq_tsw rfl (by decide) (tgt := 285) rfl ?_
    refine wq_iconst rfl rfl ?_
    exact wq_iret rfl (wm_zlt (by decide)) rfl (wkOI h hT (wm_zlt (by decide)))
  replace h := od_neg h h17
  have i18 : y1 < 10 ∨ 17 ≤ y1 := by omega
  clear i16
  by_cases h19 : y1 = 17
  case pos =>
    replace h := od_pos h h19
    refine wq_top h19 ?_
    refine wq_tsw rfl (by decide) (tgt := 285) rfl ?_
    refine wq_iconst rfl rfl ?_
    exact wq_iret rfl (wm_zlt (by decide)) rfl (wkOI h hT (wm_zlt (by decide)))
  replace h := od_neg h h19
  have i20 : y1 < 10 ∨ 18 ≤ y1 := by omega
  clear i18
  by_cases h21 : y1 = 18
  case pos =>
    replace h := od_pos h h21
    refine wq_top h21 ?_
    refine wq_tsw rfl (by decide) (tgt := 285) rfl ?_
    refine wq_iconst rfl rfl ?_
    exact wq_iret rfl (wm_zlt (by decide)) rfl (wkOI h hT (wm_zlt (by decide)))
  replace h := od_neg h h21
  have i22 : y1 < 10 ∨ 19 ≤ y1 := by omega
  clear i20
  by_cases h23 : y1 = 19
  case pos =>
    replace h := od_pos h h23
    refine wq_top h23 ?_
    refine wq_tsw rfl (by decide) (tgt := 285) rfl ?_
    refine wq_iconst rfl rfl ?_
    exact wq_iret rfl (wm_zlt (by decide)) rfl (wkOI h hT (wm_zlt (by decide)))
  replace h := od_neg h h23
  have i24 : y1 < 10 ∨ 20 ≤ y1 := by omega
  clear i22
  by_cases h25 : y1 = 20
  case pos =>
    replace h := od_pos h h25
    refine wq_top h25 ?_
    refine wq_tsw rfl (by decide) (tgt := 285) rfl ?_
    refine wq_iconst rfl rfl ?_
    exact wq_iret rfl (wm_zlt (by decide)) rfl (wkOI h hT (wm_zlt (by decide)))
  replace h := od_neg h h25
  have i26 : y1 < 10 ∨ 21 ≤ y1 := by omega
  clear i24
  by_cases h27 : y1 = 21
  case pos =>
    replace h := od_pos h h27
    refine wq_top h27 ?_
    refine wq_tsw rfl (by decide) (tgt := 285) rfl ?_
    refine wq_iconst rfl rfl ?_
    exact wq_iret rfl (wm_zlt (by decide)) rfl (wkOI h hT (wm_zlt (by decide)))
  replace h := od_neg h h27
  have i28 : y1 < 10 ∨ 22 ≤ y1 := by omega
  clear i26
  by_cases h29 : y1 = 22
  case pos =>
    replace h := od_pos h h29
    refine wq_top h29 ?_
    refine wq_tsw rfl (by decide) (tgt := 285) rfl ?_
    refine wq_iconst rfl rfl ?_
    exact wq_iret rfl (wm_zlt (by decide)) rfl (wkOI h hT (wm_zlt (by decide)))
  replace h := od_neg h h29
  have i30 : y1 < 10 ∨ 23 ≤ y1 := by omega
  clear i28
  by_cases h31 : y1 = 23
  case pos =>
    replace h := od_pos h h31
    refine wq_top h31 ?_
    refine wq_tsw rfl (by decide) (tgt := 285) rfl ?_
    refine wq_iconst rfl rfl ?_
    exact wq_iret rfl (wm_zlt (by decide)) rfl (wkOI h hT (wm_zlt (by decide)))
  replace h := od_neg h h31
  have i32 : y1 < 10 ∨ 24 ≤ y1 := by omega
  clear i30
  by_cases h33 : y1 = 24
  case pos =>
    replace h := od_pos h h33
    refine wq_top h33 ?_
    refine wq_tsw rfl (by decide) (tgt := 260) rfl ?_
    refine wq_iconst rfl rfl ?_
    exact wq_iret rfl (wm_zlt (by decide)) rfl (wkOI h hT (wm_zlt (by decide)))
  replace h := od_neg h h33
  have i34 : y1 < 10 ∨ 25 ≤ y1 := by omega
  clear i32
  by_cases h35 : y1 = 25
  case pos =>
    replace h := od_pos h h35
    refine wq_top h35 ?_
    refine wq_tsw rfl (by decide) (tgt := 285) rfl ?_
    refine wq_iconst rfl rfl ?_
    exact wq_iret rfl (wm_zlt (by decide)) rfl (wkOI h hT (wm_zlt (by decide)))
  replace h := od_neg h h35
  have i36 : y1 < 10 ∨ 26 ≤ y1 := by omega
  clear i34
  by_cases h37 : y1 = 26
  case pos =>
    replace h := od_pos h h37
    refine wq_top h37 ?_
    refine wq_tsw rfl (by decide) (tgt := 285) rfl ?_
    refine wq_iconst rfl rfl ?_
    exact wq_iret rfl (wm_zlt (by decide)) rfl (wkOI h hT (wm_zlt (by decide)))
  replace h := od_neg h h37
  have i38 : y1 < 10 ∨ 27 ≤ y1 := by omega
  clear i36
  by_cases h39 : y1 = 27
  case pos =>
    replace h := od_pos h h39
    refine wq_top h39 ?_
    refine wq_tsw rfl (by decide) (tgt := 285) rfl ?_
    refine wq_iconst rfl rfl ?_
    exact wq_iret rfl (wm_zlt (by decide)) rfl (wkOI h hT (wm_zlt (by decide)))
  replace h := od_neg h h39
  have i40 : y1 < 10 ∨ 28 ≤ y1 := by omega
  clear i38
  by_cases h41 : y1 = 28
  case pos =>
    replace h := od_pos h h41
    refine wq_top h41 ?_
    refine wq_tsw rfl (by decide) (tgt := 285) rfl ?_
    refine wq_iconst rfl rfl ?_
    exact wq_iret rfl (wm_zlt (by decide)) rfl (wkOI h hT (wm_zlt (by decide)))
  replace h := od_neg h h41
  have i42 : y1 < 10 ∨ 29 ≤ y1 := by omega
  clear i40
  by_cases h43 : y1 = 29
  case pos =>
    replace h := od_pos h h43
    refine wq_top h43 ?_
    refine wq_tsw rfl (by decide) (tgt := 285) rfl ?_
    refine wq_iconst rfl rfl ?_
    exact wq_iret rfl (wm_zlt (by decide)) rfl (wkOI h hT (wm_zlt (by decide)))
  replace h := od_neg h h43
  have i44 : y1 < 10 ∨ 30 ≤ y1 := by omega
  clear i42
  by_cases h45 : y1 = 30
  case pos =>
    replace h := od_pos h h45
    refine wq_top h45 ?_
    refine wq_tsw rfl (by decide) (tgt := 285) rfl ?_
    refine wq_iconst rfl rfl ?_
    exact wq_iret rfl (wm_zlt (by decide)) rfl (wkOI h hT (wm_zlt (by decide)))
  replace h := od_neg h h45
  have i46 : y1 < 10 ∨ 31 ≤ y1 := by omega
  clear i44
  by_cases h47 : y1 = 31
  case pos =>
    replace h := od_pos h h47
    refine wq_top h47 ?_
    refine wq_tsw rfl (by decide) (tgt := 285) rfl ?_
    refine wq_iconst rfl rfl ?_
    exact wq_iret rfl (wm_zlt (by decide)) rfl (wkOI h hT (wm_zlt (by decide)))
  replace h := od_neg h h47
  have i48 : y1 < 10 ∨ 32 ≤ y1 := by omega
  clear i46
  by_cases h49 : y1 = 32
  case pos =>
    replace h := od_pos h h49
    refine wq_top h49 ?_
    refine wq_tsw rfl (by decide) (tgt := 285) rfl ?_
    refine wq_iconst rfl rfl ?_
    exact wq_iret rfl (wm_zlt (by decide)) rfl (wkOI h hT (wm_zlt (by decide)))
  replace h := od_neg h h49
  have i50 : y1 < 10 ∨ 33 ≤ y1 := by omega
  clear i48
  by_cases h51 : y1 = 33
  case pos =>
    replace h := od_pos h h51
    refine wq_top h51 ?_
    refine wq_tsw rfl (by decide) (tgt := 285) rfl ?_
    refine wq_iconst rfl rfl ?_
    exact wq_iret rfl (wm_zlt (by decide)) rfl (wkOI h hT (wm_zlt (by decide)))
  replace h := od_neg h h51
  have i52 : y1 < 10 ∨ 34 ≤ y1 := by omega
  clear i50
  by_cases h53 : y1 = 34
  case pos =>
    replace h := od_pos h h53
    refine wq_top h53 ?_
    refine wq_tsw rfl (by decide) (tgt := 285) rfl ?_
    refine wq_iconst rfl rfl ?_
    exact wq_iret rfl (wm_zlt (by decide)) rfl (wkOI h hT (wm_zlt (by decide)))
  replace h := od_neg h h53
  have i54 : y1 < 10 ∨ 35 ≤ y1 := by omega
  clear i52
  by_cases h55 : y1 = 35
  case pos =>
    replace h := od_pos h h55
    refine wq_top h55 ?_
    refine wq_tsw rfl (by decide) (tgt := 285) rfl ?_
    refine wq_iconst rfl rfl ?_
    exact wq_iret rfl (wm_zlt (by decide)) rfl (wkOI h hT (wm_zlt (by decide)))
  replace h := od_neg h h55
  have i56 : y1 < 10 ∨ 36 ≤ y1 := by omega
  clear i54
  by_cases h57 : y1 = 36
  case pos =>
    replace h := od_pos h h57
    refine wq_top h57 ?_
    refine wq_tsw rfl (by decide) (tgt := 285) rfl ?_
    refine wq_iconst rfl rfl ?_
    exact wq_iret rfl (wm_zlt (by decide)) rfl (wkOI h hT (wm_zlt (by decide)))
  replace h := od_neg h h57
  have i58 : y1 < 10 ∨ 37 ≤ y1 := by omega
  clear i56
  by_cases h59 : y1 = 37
  case pos =>
    replace h := od_pos h h59
    refine wq_top h59 ?_
    refine wq_tsw rfl (by decide) (tgt := 285) rfl ?_
    refine wq_iconst rfl rfl ?_
    exact wq_iret rfl (wm_zlt (by decide)) rfl (wkOI h hT (wm_zlt (by decide)))
  replace h := od_neg h h59
  have i60 : y1 < 10 ∨ 38 ≤ y1 := by omega
  clear i58
  by_cases h61 : y1 = 38
  case pos =>
    replace h := od_pos h h61
    refine wq_top h61 ?_
    refine wq_tsw rfl (by decide) (tgt := 285) rfl ?_
    refine wq_iconst rfl rfl ?_
    exact wq_iret rfl (wm_zlt (by decide)) rfl (wkOI h hT (wm_zlt (by decide)))
  replace h := od_neg h h61
  have i62 : y1 < 10 ∨ 39 ≤ y1 := by omega
  clear i60
  by_cases h63 : y1 = 39
  case pos =>
    replace h := od_pos h h63
    refine wq_top h63 ?_
    refine wq_tsw rfl (by decide) (tgt := 285) rfl ?_
    refine wq_iconst rfl rfl ?_
    exact wq_iret rfl (wm_zlt (by decide)) rfl (wkOI h hT (wm_zlt (by decide)))
  replace h := od_neg h h63
  have i64 : y1 < 10 ∨ 40 ≤ y1 := by omega
  clear i62
  by_cases h65 : y1 = 40
  case pos =>
    replace h := od_pos h h65
    refine wq_top h65 ?_
    refine wq_tsw rfl (by decide) (tgt := 279) rfl ?_
    refine wq_bipush rfl rfl ?_
    exact wq_iret rfl (by decide) rfl (wkOI h hT (by decide))
  replace h := od_neg h h65
  have i66 : y1 < 10 ∨ 41 ≤ y1 := by omega
  clear i64
  by_cases h67 : y1 = 41
  case pos =>
    replace h := od_pos h h67
    refine wq_top h67 ?_
    refine wq_tsw rfl (by decide) (tgt := 279) rfl ?_
    refine wq_bipush rfl rfl ?_
    exact wq_iret rfl (by decide) rfl (wkOI h hT (by decide))
  replace h := od_neg h h67
  have i68 : y1 < 10 ∨ 42 ≤ y1 := by omega
  clear i66
  by_cases h69 : y1 = 42
  case pos =>
    replace h := od_pos h h69
    refine wq_top h69 ?_
    refine wq_tsw rfl (by decide) (tgt := 282) rfl ?_
    refine wq_bipush rfl rfl ?_
    exact wq_iret rfl (by decide) rfl (wkOI h hT (by decide))
  replace h := od_neg h h69
  have i70 : y1 < 10 ∨ 43 ≤ y1 := by omega
  clear i68
  by_cases h71 : y1 = 43
  case pos =>
    replace h := od_pos h h71
    refine wq_top h71 ?_
    refine wq_tsw rfl (by decide) (tgt := 282) rfl ?_
    refine wq_bipush rfl rfl ?_
    exact wq_iret rfl (by decide) rfl (wkOI h hT (by decide))
  replace h := od_neg h h71
  have i72 : y1 < 10 ∨ 44 ≤ y1 := by omega
  clear i70
  by_cases h73 : y1 = 44
  case pos =>
    replace h := od_pos h h73
    refine wq_top h73 ?_
    refine wq_tsw rfl (by decide) (tgt := 270) rfl ?_
    refine wq_bipush rfl rfl ?_
    exact wq_iret rfl (by decide) rfl (wkOI h hT (by decide))
  replace h := od_neg h h73
  have i74 : y1 < 10 ∨ 45 ≤ y1 := by omega
  clear i72
  by_cases h75 : y1 = 45
  case pos =>
    replace h := od_pos h h75
    refine wq_top h75 ?_
    refine wq_tsw rfl (by decide) (tgt := 266) rfl ?_
    refine wq_iconst rfl rfl ?_
    exact wq_iret rfl (by decide) rfl (wkOI h hT (by decide))
  replace h := od_neg h h75
  have i76 : y1 < 10 ∨ 46 ≤ y1 := by omega
  clear i74
  by_cases h77 : y1 = 46
  case pos =>
    replace h := od_pos h h77
    refine wq_top h77 ?_
    refine wq_tsw rfl (by decide) (tgt := 268) rfl ?_
    refine wq_iconst rfl rfl ?_
    exact wq_iret rfl (by decide) rfl (wkOI h hT (by decide))
  replace h := od_neg h h77
  have i78 : y1 < 10 ∨ 47 ≤ y1 := by omega
  clear i76
  by_cases h79 : y1 = 47
  case pos =>
    replace h := od_pos h h79
    refine wq_top h79 ?_
    refine wq_tsw rfl (by decide) (tgt := 264) rfl ?_
    refine wq_iconst rfl rfl ?_
    exact wq_iret rfl (by decide) rfl (wkOI h hT (by decide))
  replace h := od_neg h h79
  have i80 : y1 < 10 ∨ 48 ≤ y1 := by omega
  clear i78
  by_cases h81 : y1 = 48
  case pos =>
    replace h := od_pos h h81
    refine wq_top h81 ?_
    refine wq_tsw rfl (by decide) (tgt := 264) rfl ?_
    refine wq_iconst rfl rfl ?_
    exact wq_iret rfl (by decide) rfl (wkOI h hT (by decide))
  replace h := od_neg h h81
  have i82 : y1 < 10 ∨ 49 ≤ y1 := by omega
  clear i80
  by_cases h83 : y1 = 49
  case pos =>
    replace h := od_pos h h83
    refine wq_top h83 ?_
    refine wq_tsw rfl (by decide) (tgt := 285) rfl ?_
    refine wq_iconst rfl rfl ?_
    exact wq_iret rfl (wm_zlt (by decide)) rfl (wkOI h hT (wm_zlt (by decide)))
  replace h := od_neg h h83
  have i84 : y1 < 10 ∨ 50 ≤ y1 := by omega
  clear i82
  by_cases h85 : y1 = 50
  case pos =>
    replace h := od_pos h h85
    refine wq_top h85 ?_
    refine wq_tsw rfl (by decide) (tgt := 285) rfl ?_
    refine wq_iconst rfl rfl ?_
    exact wq_iret rfl (wm_zlt (by decide)) rfl (wkOI h hT (wm_zlt (by decide)))
  replace h := od_neg h h85
  have i86 : y1 < 10 ∨ 51 ≤ y1 := by omega
  clear i84
  by_cases h87 : y1 = 51
  case pos =>
    replace h := od_pos h h87
    refine wq_top h87 ?_
    refine wq_tsw rfl (by decide) (tgt := 285) rfl ?_
    refine wq_iconst rfl rfl ?_
    exact wq_iret rfl (wm_zlt (by decide)) rfl (wkOI h hT (wm_zlt (by decide)))
  replace h := od_neg h h87
  have i88 : y1 < 10 ∨ 52 ≤ y1 := by omega
  clear i86
  by_cases h89 : y1 = 52
  case pos =>
    replace h := od_pos h h89
    refine wq_top h89 ?_
    refine wq_tsw rfl (by decide) (tgt := 285) rfl ?_
    refine wq_iconst rfl rfl ?_
    exact wq_iret rfl (wm_zlt (by decide)) rfl (wkOI h hT (wm_zlt (by decide)))
  replace h := od_neg h h89
  have i90 : y1 < 10 ∨ 53 ≤ y1 := by omega
  clear i88
  by_cases h91 : y1 = 53
  case pos =>
    replace h := od_pos h h91
    refine wq_top h91 ?_
    refine wq_tsw rfl (by decide) (tgt := 285) rfl ?_
    refine wq_iconst rfl rfl ?_
    exact wq_iret rfl (wm_zlt (by decide)) rfl (wkOI h hT (wm_zlt (by decide)))
  replace h := od_neg h h91
  have i92 : y1 < 10 ∨ 54 ≤ y1 := by omega
  clear i90
  by_cases h93 : y1 = 54
  case pos =>
    replace h := od_pos h h93
    refine wq_top h93 ?_
    refine wq_tsw rfl (by decide) (tgt := 285) rfl ?_
    refine wq_iconst rfl rfl ?_
    exact wq_iret rfl (wm_zlt (by decide)) rfl (wkOI h hT (wm_zlt (by decide)))
  replace h := od_neg h h93
  have i94 : y1 < 10 ∨ 55 ≤ y1 := by omega
  clear i92
  by_cases h95 : y1 = 55
  case pos =>
    replace h := od_pos h h95
    refine wq_top h95 ?_
    refine wq_tsw rfl (by decide) (tgt := 285) rfl ?_
    refine wq_iconst rfl rfl ?_
    exact wq_iret rfl (wm_zlt (by decide)) rfl (wkOI h hT (wm_zlt (by decide)))
  replace h := od_neg h h95
  have i96 : y1 < 10 ∨ 56 ≤ y1 := by omega
  clear i94
  by_cases h97 : y1 = 56
  case pos =>
    replace h := od_pos h h97
    refine wq_top h97 ?_
    refine wq_tsw rfl (by decide) (tgt := 285) rfl ?_
    refine wq_iconst rfl rfl ?_
    exact wq_iret rfl (wm_zlt (by decide)) rfl (wkOI h hT (wm_zlt (by decide)))
  replace h := od_neg h h97
  have i98 : y1 < 10 ∨ 57 ≤ y1 := by omega
  clear i96
  by_cases h99 : y1 = 57
  case pos =>
    replace h := od_pos h h99
    refine wq_top h99 ?_
    refine wq_tsw rfl (by decide) (tgt := 285) rfl ?_
    refine wq_iconst rfl rfl ?_
    exact wq_iret rfl (wm_zlt (by decide)) rfl (wkOI h hT (wm_zlt (by decide)))
  replace h := od_neg h h99
  have i100 : y1 < 10 ∨ 58 ≤ y1 := by omega
  clear i98
  by_cases h101 : y1 = 58
  case pos =>
    replace h := od_pos h h101
    refine wq_top h101 ?_
    refine wq_tsw rfl (by decide) (tgt := 285) rfl ?_
    refine wq_iconst rfl rfl ?_
    exact wq_iret rfl (wm_zlt (by decide)) rfl (wkOI h hT (wm_zlt (by decide)))
  replace h := od_neg h h101
  have i102 : y1 < 10 ∨ 59 ≤ y1 := by omega
  clear i100
  by_cases h103 : y1 = 59
  case pos =>
    replace h := od_pos h h103
    refine wq_top h103 ?_
    refine wq_tsw rfl (by decide) (tgt := 285) rfl ?_
    refine wq_iconst rfl rfl ?_
    exact wq_iret rfl (wm_zlt (by decide)) rfl (wkOI h hT (wm_zlt (by decide)))
  replace h := od_neg h h103
  have i104 : y1 < 10 ∨ 60 ≤ y1 := by omega
  clear i102
  by_cases h105 : y1 = 60
  case pos =>
    replace h := od_pos h h105
    refine wq_top h105 ?_
    refine wq_tsw rfl (by decide) (tgt := 285) rfl ?_
    refine wq_iconst rfl rfl ?_
    exact wq_iret rfl (wm_zlt (by decide)) rfl (wkOI h hT (wm_zlt (by decide)))
  replace h := od_neg h h105
  have i106 : y1 < 10 ∨ 61 ≤ y1 := by omega
  clear i104
  by_cases h107 : y1 = 61
  case pos =>
    replace h := od_pos h h107
    refine wq_top h107 ?_
    refine wq_tsw rfl (by decide) (tgt := 282) rfl ?_
    refine wq_bipush rfl rfl ?_
    exact wq_iret rfl (by decide) rfl (wkOI h hT (by decide))
  replace h := od_neg h h107
  have i108 : y1 < 10 ∨ 62 ≤ y1 := by omega
  clear i106
  by_cases h109 : y1 = 62
  case pos =>
    replace h := od_pos h h109
    refine wq_top h109 ?_
    refine wq_tsw rfl (by decide) (tgt := 273) rfl ?_
    refine wq_bipush rfl rfl ?_
    exact wq_iret rfl (by decide) rfl (wkOI h hT (by decide))
  replace h := od_neg h h109
  have i110 : y1 < 10 ∨ 63 ≤ y1 := by omega
  clear i108
  by_cases h111 : y1 = 63
  case pos =>
    replace h := od_pos h h111
    refine wq_top h111 ?_
    refine wq_tsw rfl (by decide) (tgt := 273) rfl ?_
    refine wq_bipush rfl rfl ?_
    exact wq_iret rfl (by decide) rfl (wkOI h hT (by decide))
  replace h := od_neg h h111
  have i112 : y1 < 10 ∨ 64 ≤ y1 := by omega
  clear i110
  by_cases h113 : y1 = 64
  case pos =>
    replace h := od_pos h h113
    refine wq_top h113 ?_
    refine wq_tsw rfl (by decide) (tgt := 276) rfl ?_
    refine wq_bipush rfl rfl ?_
    exact wq_iret rfl (by decide) rfl (wkOI h hT (by decide))
  replace h := od_neg h h113
  have i114 : y1 < 10 ∨ 65 ≤ y1 := by omega
  clear i112
  by_cases h115 : y1 = 65
  case pos =>
    replace h := od_pos h h115
    refine wq_top h115 ?_
    refine wq_tsw rfl (by decide) (tgt := 285) rfl ?_
    refine wq_iconst rfl rfl ?_
    exact wq_iret rfl (wm_zlt (by decide)) rfl (wkOI h hT (wm_zlt (by decide)))
  replace h := od_neg h h115
  have i116 : y1 < 10 ∨ 66 ≤ y1 := by omega
  clear i114
  by_cases h117 : y1 = 66
  case pos =>
    replace h := od_pos h h117
    refine wq_top h117 ?_
    refine wq_tsw rfl (by decide) (tgt := 264) rfl ?_
    refine wq_iconst rfl rfl ?_
    exact wq_iret rfl (by decide) rfl (wkOI h hT (by decide))
  replace h := od_neg h h117
  have i118 : y1 < 10 ∨ 67 ≤ y1 := by omega
  clear i116
  by_cases h119 : y1 = 67
  case pos =>
    replace h := od_pos h h119
    refine wq_top h119 ?_
    refine wq_tsw rfl (by decide) (tgt := 264) rfl ?_
    refine wq_iconst rfl rfl ?_
    exact wq_iret rfl (by decide) rfl (wkOI h hT (by decide))
  replace h := od_neg h h119
  have i120 : y1 < 10 ∨ 68 ≤ y1 := by omega
  clear i118
  by_cases h121 : y1 = 68
  case pos =>
    replace h := od_pos h h121
    refine wq_top h121 ?_
    refine wq_tsw rfl (by decide) (tgt := 264) rfl ?_
    refine wq_iconst rfl rfl ?_
    exact wq_iret rfl (by decide) rfl (wkOI h hT (by decide))
  replace h := od_neg h h121
  have i122 : y1 < 10 ∨ 69 ≤ y1 := by omega
  clear i120
  by_cases h123 : y1 = 69
  case pos =>
    replace h := od_pos h h123
    refine wq_top h123 ?_
    refine wq_tsw rfl (by decide) (tgt := 264) rfl ?_
    refine wq_iconst rfl rfl ?_
    exact wq_iret rfl (by decide) rfl (wkOI h hT (by decide))
  replace h := od_neg h h123
  have i124 : y1 < 10 ∨ 70 ≤ y1 := by omega
  clear i122
  refine wq_tswD rfl p3 (by unfold ev_si ev_s; omega) rfl (tgt := 285) rfl ?_
  refine wq_iconst rfl rfl ?_
  exact wq_iret rfl (wm_zlt (by decide)) rfl (wkOI h hT (wm_zlt (by decide)))
/-- X4_binary -/
def dk_147 (F : wq_F) (a0 : Nat) : Option (Nat × wq_F) :=
  if a0 = 40 then
    some (40, F)
  else if a0 = 41 then
    some (41, F)
  else if a0 = 42 then
    some (42, F)
  else if a0 = 43 then
    some (44, F)
  else if a0 = 44 then
    some (45, F)
  else if a0 = 45 then
    some (46, F)
  else if a0 = 46 then
    some (47, F)
  else if a0 = 47 then
    some (55, F)
  else if a0 = 48 then
    some (57, F)
  else if a0 = 49 then
    some (54, F)
  else if a0 = 50 then
    some (54, F)
  else if a0 = 51 then
    some (54, F)
  else if a0 = 52 then
    some (54, F)
  else if a0 = 53 then
    some (54, F)
  else if a0 = 54 then
    some (54, F)
  else if a0 = 55 then
    some (54, F)
  else if a0 = 56 then
    some (54, F)
  else if a0 = 57 then
    some (54, F)
  else if a0 = 58 then
    some (54, F)
  else if a0 = 59 then
    some (54, F)
  else if a0 = 60 then
    some (54, F)
  else if a0 = 61 then
    some (43, F)
  else if a0 = 62 then
    some (48, F)
  else if a0 = 63 then
    some (49, F)
  else if a0 = 64 then
    some (52, F)
  else if a0 = 65 then
    some (54, F)
  else if a0 = 66 then
    some (54, F)
  else if a0 = 67 then
    some (54, F)
  else if a0 = 68 then
    some (56, F)
  else if a0 = 69 then
    some (58, F)
  else 
  some (54, F)
theorem dkT_147 {d : Nat} {F : wq_F} (hT : xm_T F) {a0 : Nat} (ha0 : a0 < 4294967296) {x : Nat × wq_F} (h : dk_147 F a0 = some x) : mq (d + 0 + 1) 147 [a0] xm_sh F (wkI xm_T xm_sh x) := by
  have e : ev_ent [a0] = [a0] := by
    rw [wm_entI ha0]
    rfl
  refine mq_of (maxL := 1) (rt := (some .int)) (code := (ev_un al_mX4_binary.2.2.2.2)) (L := [a0]) rfl (by rw [e]; exact Nat.le_of_ble_eq_true rfl) (by rw [e]; rfl) ?_
  unfold dk_147 at h
  refine wq_iload_n rfl rfl ha0 ?_
  have i1 : a0 < 40 ∨ 40 ≤ a0 := Nat.lt_or_ge _ _
  by_cases h2 : a0 = 40
  case pos =>
    replace h := od_pos h h2
    refine wq_top h2 ?_
    refine wq_tsw rfl (by decide) (tgt := 136) rfl ?_
    refine wq_bipush rfl rfl ?_
    exact wq_iret rfl (by decide) rfl (wkOI h hT (by decide))
  replace h := od_neg h h2
  have i3 : a0 < 40 ∨ 41 ≤ a0 := by omega
  clear i1
  by_cases h4 : a0 = 41
  case pos =>
    replace h := od_pos h h4
    refine wq_top h4 ?_
    refine wq_tsw rfl (by decide) (tgt := 139) rfl ?_
    refine wq_bipush rfl rfl ?_
    exact wq_iret rfl (by decide) rfl (wkOI h hT (by decide))
  replace h := od_neg h h4
  have i5 : a0 < 40 ∨ 42 ≤ a0 := by omega
  clear i3
  by_cases h6 : a0 = 42
  case pos =>
    replace h := od_pos h h6
    refine wq_top h6 ?_
    refine wq_tsw rfl (by decide) (tgt := 142) rfl ?_
    refine wq_bipush rfl rfl ?_
    exact wq_iret rfl (by decide) rfl (wkOI h hT (by decide))
  replace h := od_neg h h6
  have i7 : a0 < 40 ∨ 43 ≤ a0 := by omega
  clear i5
  by_cases h8 : a0 = 43
  case pos =>
    replace h := od_pos h h8
    refine wq_top h8 ?_
    refine wq_tsw rfl (by decide) (tgt := 148) rfl ?_
    refine wq_bipush rfl rfl ?_
    exact wq_iret rfl (by decide) rfl (wkOI h hT (by decide))
  replace h := od_neg h h8
  have i9 : a0 < 40 ∨ 44 ≤ a0 := by omega
  clear i7
  by_cases h10 : a0 = 44
  case pos =>
    replace h := od_pos h h10
    refine wq_top h10 ?_
    refine wq_tsw rfl (by decide) (tgt := 151) rfl ?_
    refine wq_bipush rfl rfl ?_
    exact wq_iret rfl (by decide) rfl (wkOI h hT (by decide))
  replace h := od_neg h h10
  have i11 : a0 < 40 ∨ 45 ≤ a0 := by omega
  clear i9
  by_cases h12 : a0 = 45
  case pos =>
    replace h := od_pos h h12
    refine wq_top h12 ?_
    refine wq_tsw rfl (by decide) (tgt := 154) rfl ?_
    refine wq_bipush rfl rfl ?_
    exact wq_iret rfl (by decide) rfl (wkOI h hT (by decide))
  replace h := od_neg h h12
  have i13 : a0 < 40 ∨ 46 ≤ a0 := by omega
  clear i11
  by_cases h14 : a0 = 46
  case pos =>
    replace h := od_pos h h14
    refine wq_top h14 ?_
    refine wq_tsw rfl (by decide) (tgt := 157) rfl ?_
    refine wq_bipush rfl rfl ?_
    exact wq_iret rfl (by decide) rfl (wkOI h hT (by decide))
  replace h := od_neg h h14
  have i15 : a0 < 40 ∨ 47 ≤ a0 := by omega
  clear i13
  by_cases h16 : a0 = 47
  case pos =>
    replace h := od_pos h h16
    refine wq_top h16 ?_
    refine wq_tsw rfl (by decide) (tgt := 169) rfl ?_
    refine wq_bipush rfl rfl ?_
    exact wq_iret rfl (by decide) rfl (wkOI h hT (by decide))
  replace h := od_neg h h16
  have i17 : a0 < 40 ∨ 48 ≤ a0 := by omega
  clear i15
  by_cases h18 : a0 = 48
  case pos =>
    replace h := od_pos h h18
    refine wq_top h18 ?_
    refine wq_tsw rfl (by decide) (tgt := 175) rfl ?_
    refine wq_bipush rfl rfl ?_
    exact wq_iret rfl (by decide) rfl (wkOI h hT (by decide))
  replace h := od_neg h h18
  have i19 : a0 < 40 ∨ 49 ≤ a0 := by omega
  clear i17
  by_cases h20 : a0 = 49
  case pos =>
    replace h := od_pos h h20
    refine wq_top h20 ?_
    refine wq_tsw rfl (by decide) (tgt := 181) rfl ?_
    refine wq_bipush rfl rfl ?_
    exact wq_iret rfl (by decide) rfl (wkOI h hT (by decide))
  replace h := od_neg h h20
  have i21 : a0 < 40 ∨ 50 ≤ a0 := by omega
  clear i19
  by_cases h22 : a0 = 50
  case pos =>
    replace h := od_pos h h22
    refine wq_top h22 ?_
    refine wq_tsw rfl (by decide) (tgt := 181) rfl ?_
    refine wq_bipush rfl rfl ?_
    exact wq_iret rfl (by decide) rfl (wkOI h hT (by decide))
  replace h := od_neg h h22
  have i23 : a0 < 40 ∨ 51 ≤ a0 := by omega
  clear i21
  by_cases h24 : a0 = 51
  case pos =>
    replace h := od_pos h h24
    refine wq_top h24 ?_
    refine wq_tsw rfl (by decide) (tgt := 181) rfl ?_
    refine wq_bipush rfl rfl ?_
    exact wq_iret rfl (by decide) rfl (wkOI h hT (by decide))
  replace h := od_neg h h24
  have i25 : a0 < 40 ∨ 52 ≤ a0 := by omega
  clear i23
  by_cases h26 : a0 = 52
  case pos =>
    replace h := od_pos h h26
    refine wq_top h26 ?_
    refine wq_tsw rfl (by decide) (tgt := 181) rfl ?_
    refine wq_bipush rfl rfl ?_
    exact wq_iret rfl (by decide) rfl (wkOI h hT (by decide))
  replace h := od_neg h h26
  have i27 : a0 < 40 ∨ 53 ≤ a0 := by omega
  clear i25
  by_cases h28 : a0 = 53
  case pos =>
    replace h := od_pos h h28
    refine wq_top h28 ?_
    refine wq_tsw rfl (by decide) (tgt := 181) rfl ?_
    refine wq_bipush rfl rfl ?_
    exact wq_iret rfl (by decide) rfl (wkOI h hT (by decide))
  replace h := od_neg h h28
  have i29 : a0 < 40 ∨ 54 ≤ a0 := by omega
  clear i27
  by_cases h30 : a0 = 54
  case pos =>
    replace h := od_pos h h30
    refine wq_top h30 ?_
    refine wq_tsw rfl (by decide) (tgt := 181) rfl ?_
    refine wq_bipush rfl rfl ?_
    exact wq_iret rfl (by decide) rfl (wkOI h hT (by decide))
  replace h := od_neg h h30
  have i31 : a0 < 40 ∨ 55 ≤ a0 := by omega
  clear i29
  by_cases h32 : a0 = 55
  case pos =>
    replace h := od_pos h h32
    refine wq_top h32 ?_
    refine wq_tsw rfl (by decide) (tgt := 181) rfl ?_
    refine wq_bipush rfl rfl ?_
    exact wq_iret rfl (by decide) rfl (wkOI h hT (by decide))
  replace h := od_neg h h32
  have i33 : a0 < 40 ∨ 56 ≤ a0 := by omega
  clear i31
  by_cases h34 : a0 = 56
  case pos =>
    replace h := od_pos h h34
    refine wq_top h34 ?_
    refine wq_tsw rfl (by decide) (tgt := 181) rfl ?_
    refine wq_bipush rfl rfl ?_
    exact wq_iret rfl (by decide) rfl (wkOI h hT (by decide))
  replace h := od_neg h h34
  have i35 : a0 < 40 ∨ 57 ≤ a0 := by omega
  clear i33
  by_cases h36 : a0 = 57
  case pos =>
    replace h := od_pos h h36
    refine wq_top h36 ?_
    refine wq_tsw rfl (by decide) (tgt := 181) rfl ?_
    refine wq_bipush rfl rfl ?_
    exact wq_iret rfl (by decide) rfl (wkOI h hT (by decide))
  replace h := od_neg h h36
  have i37 : a0 < 40 ∨ 58 ≤ a0 := by omega
  clear i35
  by_cases h38 : a0 = 58
  case pos =>
    replace h := od_pos h h38
    refine wq_top h38 ?_
    refine wq_tsw rfl (by decide) (tgt := 181) rfl ?_
    refine wq_bipush rfl rfl ?_
    exact wq_iret rfl (by decide) rfl (wkOI h hT (by decide))
  replace h := od_neg h h38
  have i39 : a0 < 40 ∨ 59 ≤ a0 := by omega
  clear i37
  by_cases h40 : a0 = 59
  case pos =>
    replace h := od_pos h h40
    refine wq_top h40 ?_
    refine wq_tsw rfl (by decide) (tgt := 181) rfl ?_
    refine wq_bipush rfl rfl ?_
    exact wq_iret rfl (by decide) rfl (wkOI h hT (by decide))
  replace h := od_neg h h40
  have i41 : a0 < 40 ∨ 60 ≤ a0 := by omega
  clear i39
  by_cases h42 : a0 = 60
  case pos =>
    replace h := od_pos h h42
    refine wq_top h42 ?_
    refine wq_tsw rfl (by decide) (tgt := 181) rfl ?_
    refine wq_bipush rfl rfl ?_
    exact wq_iret rfl (by decide) rfl (wkOI h hT (by decide))
  replace h := od_neg h h42
  have i43 : a0 < 40 ∨ 61 ≤ a0 := by omega
  clear i41
  by_cases h44 : a0 = 61
  case pos =>
    replace h := od_pos h h44
    refine wq_top h44 ?_
    refine wq_tsw rfl (by decide) (tgt := 145) rfl ?_
    refine wq_bipush rfl rfl ?_
    exact wq_iret rfl (by decide) rfl (wkOI h hT (by decide))
  replace h := od_neg h h44
  have i45 : a0 < 40 ∨ 62 ≤ a0 := by omega
  clear i43
  by_cases h46 : a0 = 62
  case pos =>
    replace h := od_pos h h46
    refine wq_top h46 ?_
    refine wq_tsw rfl (by decide) (tgt := 160) rfl ?_
    refine wq_bipush rfl rfl ?_
    exact wq_iret rfl (by decide) rfl (wkOI h hT (by decide))
  replace h := od_neg h h46
  have i47 : a0 < 40 ∨ 63 ≤ a0 := by omega
  clear i45
  by_cases h48 : a0 = 63
  case pos =>
    replace h := od_pos h h48
    refine wq_top h48 ?_
    refine wq_tsw rfl (by decide) (tgt := 163) rfl ?_
    refine wq_bipush rfl rfl ?_
    exact wq_iret rfl (by decide) rfl (wkOI h hT (by decide))
  replace h := od_neg h h48
  have i49 : a0 < 40 ∨ 64 ≤ a0 := by omega
  clear i47
  by_cases h50 : a0 = 64
  case pos =>
    replace h := od_pos h h50
    refine wq_top h50 ?_
    refine wq_tsw rfl (by decide) (tgt := 166) rfl ?_
    refine wq_bipush rfl rfl ?_
    exact wq_iret rfl (by decide) rfl (wkOI h hT (by decide))
  replace h := od_neg h h50
  have i51 : a0 < 40 ∨ 65 ≤ a0 := by omega
  clear i49
  by_cases h52 : a0 = 65
  case pos =>
    replace h := od_pos h h52
    refine wq_top h52 ?_
    refine wq_tsw rfl (by decide) (tgt := 181) rfl ?_
    refine wq_bipush rfl rfl ?_
    exact wq_iret rfl (by decide) rfl (wkOI h hT (by decide))
  replace h := od_neg h h52
  have i53 : a0 < 40 ∨ 66 ≤ a0 := by omega
  clear i51
  by_cases h54 : a0 = 66
  case pos =>
    replace h := od_pos h h54
    refine wq_top h54 ?_
    refine wq_tsw rfl (by decide) (tgt := 181) rfl ?_
    refine wq_bipush rfl rfl ?_
    exact wq_iret rfl (by decide) rfl (wkOI h hT (by decide))
  replace h := od_neg h h54
  have i55 : a0 < 40 ∨ 67 ≤ a0 := by omega
  clear i53
  by_cases h56 : a0 = 67
  case pos =>
    replace h := od_pos h h56
    refine wq_top h56 ?_
    refine wq_tsw rfl (by decide) (tgt := 181) rfl ?_
    refine wq_bipush rfl rfl ?_
    exact wq_iret rfl (by decide) rfl (wkOI h hT (by decide))
  replace h := od_neg h h56
  have i57 : a0 < 40 ∨ 68 ≤ a0 := by omega
  clear i55
  by_cases h58 : a0 = 68
  case pos =>
    replace h := od_pos h h58
    refine wq_top h58 ?_
    refine wq_tsw rfl (by decide) (tgt := 172) rfl ?_
    refine wq_bipush rfl rfl ?_
    exact wq_iret rfl (by decide) rfl (wkOI h hT (by decide))
  replace h := od_neg h h58
  have i59 : a0 < 40 ∨ 69 ≤ a0 := by omega
  clear i57
  by_cases h60 : a0 = 69
  case pos =>
    replace h := od_pos h h60
    refine wq_top h60 ?_
    refine wq_tsw rfl (by decide) (tgt := 178) rfl ?_
    refine wq_bipush rfl rfl ?_
    exact wq_iret rfl (by decide) rfl (wkOI h hT (by decide))
  replace h := od_neg h h60
  have i61 : a0 < 40 ∨ 70 ≤ a0 := by omega
  clear i59
  refine wq_tswD rfl ha0 (by unfold ev_si ev_s; omega) rfl (tgt := 181) rfl ?_
  refine wq_bipush rfl rfl ?_
  exact wq_iret rfl (by decide) rfl (wkOI h hT (by decide))
/-- X7_setBreaks -/
def dk_165 (F : wq_F) (a0 : Nat) : Option (Nat × wq_F) :=
  od_g (F 59 8 < 24) <|
  od_up F 65 (F 59 8) a0 fun F2 =>
  some (0, F2)
theorem dkT_165 {d : Nat} {F : wq_F} (hT : xm_T F) {a0 : Nat} (ha0 : a0 < 4294967296) {x : Nat × wq_F} (h : dk_165 F a0 = some x) : mq (d + 0 + 1) 165 [36893488147419103291, a0] xm_sh F (wkN xm_T xm_sh x) := by
  have e : ev_ent [36893488147419103291, a0] = [36893488147419103291, a0] := by
    show 36893488147419103291 :: ev_ent [a0] = _
    rw [wm_entI ha0]
    rfl
  refine mq_of (maxL := 2) (rt := none) (code := (ev_un al_mX7_setBreaks.2.2.2.2)) (L := [36893488147419103291, a0]) rfl (by rw [e]; exact Nat.le_of_ble_eq_true rfl) (by rw [e]; rfl) ?_
  unfold dk_165 at h
  refine wq_aload_n rfl rfl rfl ?_
  refine xm_getR (v := 36893488147419103297) (q := 59) rfl rfl (by decide) (by decide) (hT.r (k := 59) 7 64 rfl (by decide) rfl) ?_
  refine wq_aload_n rfl rfl rfl ?_
  refine xm_getI (q := 59) rfl rfl (by decide) (by decide) ?_
  refine wq_iload_n rfl rfl ha0 ?_
  obtain ⟨g1, h⟩ := od_gE h
  obtain ⟨F2, e3, h⟩ := od_upE h
  refine wd_iastore (q := 65) (n := 24) rfl rfl (by decide) g1 (by decide) ha0 e3 ?_
  have T4 : xm_T F2 := wd_T e3 (hT.ua (k := 65) (kd := 1000) (n := 24) (i := F 59 8) (v := a0) rfl (by decide) g1 (show a0 < 4294967296 from ha0))
  exact wq_ret rfl (wkON h T4)
/-- X4_endLoop -/
def dk_120 (n : Nat) (F : wq_F) (a0 : Nat) (a1 : Nat) : Option (Nat × wq_F) :=
  (dk_164 F).bind fun y1 =>
  (dk_159 n y1.2 y1.1).bind fun y5 =>
  (dk_165 y5.2 a1).bind fun y9 =>
  (dk_113 y9.2 a0).bind fun y13 =>
  some (0, y13.2)
theorem dkT_120 {d n : Nat} {F : wq_F} (hT : xm_T F) {a0 : Nat} (ha0 : a0 < 4294967296) {a1 : Nat} (ha1 : a1 < 4294967296) {x : Nat × wq_F} (h : dk_120 n F a0 a1 = some x) : mq (d + 3 + 1) 120 [36893488147419103288, a0, a1] xm_sh F (wkN xm_T xm_sh x) := by
  have e : ev_ent [36893488147419103288, a0, a1] = [36893488147419103288, a0, a1] := by
    show 36893488147419103288 :: ev_ent [a0, a1] = _
    rw [wm_entI ha0, wm_entI ha1]
    rfl
  refine mq_of (maxL := 3) (rt := none) (code := (ev_un al_mX4_endLoop.2.2.2.2)) (L := [36893488147419103288, a0, a1]) rfl (by rw [e]; exact Nat.le_of_ble_eq_true rfl) (by rw [e]; rfl) ?_
  unfold dk_120 at h
  refine wq_aload_n rfl rfl rfl ?_
  refine xm_getR (v := 36893488147419103243) (q := 56) rfl rfl (by decide) (by decide) (hT.r (k := 56) 1 10 rfl (by decide) rfl) ?_
  refine wq_aload_n rfl rfl rfl ?_
  refine xm_getR (v := 36893488147419103291) (q := 56) rfl rfl (by decide) (by decide) (hT.r (k := 56) 3 58 rfl (by decide) rfl) ?_
  obtain ⟨y1, e2, h⟩ := od_bindE h
  refine wd_virtI (q := 59) (y := y1) (as := [36893488147419103291]) rfl rfl rfl (by decide) (Nat.le_of_ble_eq_true rfl) (Nat.le_of_ble_eq_true rfl) rfl (Nat.le_of_ble_eq_true rfl) rfl (dkT_164 hT e2) (fun p3 T4 => ?_)
  obtain ⟨y5, e6, h⟩ := od_bindE h
  refine wd_virtN (q := 11) (y := y5) (as := [36893488147419103243, y1.1]) rfl rfl rfl (by decide) (Nat.le_of_ble_eq_true rfl) (Nat.le_of_ble_eq_true rfl) rfl (Nat.le_of_ble_eq_true rfl) rfl (dkT_159 T4 p3 e6) (fun T8 => ?_)
  refine wq_aload_n rfl rfl rfl ?_
  refine xm_getR (v := 36893488147419103291) (q := 56) rfl rfl (by decide) (by decide) (T8.r (k := 56) 3 58 rfl (by decide) rfl) ?_
  refine wq_iload_n rfl rfl ha1 ?_
  obtain ⟨y9, e10, h⟩ := od_bindE h
  refine wd_virtN (q := 59) (y := y9) (as := [36893488147419103291, a1]) rfl rfl rfl (by decide) (Nat.le_of_ble_eq_true rfl) (Nat.le_of_ble_eq_true rfl) rfl (Nat.le_of_ble_eq_true rfl) rfl (dkT_165 T8 ha1 e10) (fun T12 => ?_)
  refine wq_aload_n rfl rfl rfl ?_
  refine wq_iload_n rfl rfl ha0 ?_
  obtain ⟨y13, e14, h⟩ := od_bindE h
  refine wd_virtN (q := 56) (y := y13) (as := [36893488147419103288, a0]) rfl rfl rfl (by decide) (Nat.le_of_ble_eq_true rfl) (Nat.le_of_ble_eq_true rfl) rfl (Nat.le_of_ble_eq_true rfl) rfl (dkT_113 T12 ha0 e14) (fun T16 => ?_)
  exact wq_ret rfl (wkON h T16)
def dk_125_2b (n : Nat) (r2 : wq_F → Nat → Option (Nat × wq_F)) (F : wq_F) (v1 : Nat) : Option (Nat × wq_F) :=
  if ev_s 50 < ev_s v1 then
    some (0, F)
  else
    if (F 57 4) = 59 then
      (dk_77 n F).bind fun y3 =>
      (dk_124 y3.2).bind fun y7 =>
      (dk_77 n y7.2).bind fun y11 =>
      od_let ((v1 + 1) % 4294967296) fun y15 =>
      r2 y11.2 y15
    else
      some (0, F)
theorem dk_125_2bT {d n : Nat} {r2 : wq_F → Nat → Option (Nat × wq_F)} (hr2 : ∀ ⦃F : wq_F⦄ (hT : xm_T F) ⦃v1 : Nat⦄ (hv1 : v1 < 4294967296) ⦃x : Nat × wq_F⦄ (h : r2 F v1 = some x), wq (wq_cf (d + 6)) (ev_un al_mX4_moreNames.2.2.2.2) none 2 [36893488147419103288, v1] [] xm_sh F 0 0 (wkN xm_T xm_sh x)) : ∀ ⦃F : wq_F⦄ (hT : xm_T F) ⦃v1 : Nat⦄ (hv1 : v1 < 4294967296) ⦃x : Nat × wq_F⦄ (h : dk_125_2b n r2 F v1 = some x), wq (wq_cf (d + 6)) (ev_un al_mX4_moreNames.2.2.2.2) none 2 [36893488147419103288, v1] [] xm_sh F 0 0 (wkN xm_T xm_sh x) := by
  intro F hT v1 hv1 x h
  unfold dk_125_2b at h
  refine wq_iload_n rfl rfl hv1 ?_
  refine wq_bipush rfl rfl ?_
  refine wq_ic_gt rfl rfl hv1 (by decide) (fun h1 => ?_) (fun h1 => ?_)
  · replace h := od_pos h h1
    exact wq_ret rfl (wkON h hT)
  · replace h := od_neg h (Nat.not_lt.mpr h1)
    refine wq_aload_n rfl rfl rfl ?_
    refine xm_getR (v := 36893488147419103289) (q := 56) rfl rfl (by decide) (by decide) (hT.r (k := 56) 0 56 rfl (by decide) rfl) ?_
    refine xm_getI (q := 57) rfl rfl (by decide) (by decide) ?_
    refine wq_bipush rfl rfl ?_
    refine wq_ic_ne rfl rfl (hT.i (k := 57) 4 rfl (by decide) rfl) (by decide) (fun h2 => ?_) (fun h2 => ?_)
    · replace h := od_neg h h2
      exact wq_ret rfl (wkON h hT)
    · replace h := od_pos h h2
      refine wq_aload_n rfl rfl rfl ?_
      obtain ⟨y3, e4, h⟩ := od_bindE h
      refine wd_virtN (q := 56) (y := y3) (as := [36893488147419103288]) rfl rfl rfl (by decide) (Nat.le_of_ble_eq_true rfl) (Nat.le_of_ble_eq_true rfl) rfl (Nat.le_of_ble_eq_true rfl) rfl (dkT_77 hT e4) (fun T6 => ?_)
      refine wq_aload_n rfl rfl rfl ?_
      obtain ⟨y7, e8, h⟩ := od_bindE h
      refine wd_virtN (q := 56) (y := y7) (as := [36893488147419103288]) rfl rfl rfl (by decide) (Nat.le_of_ble_eq_true rfl) (Nat.le_of_ble_eq_true rfl) rfl (Nat.le_of_ble_eq_true rfl) rfl (dkT_124 T6 e8) (fun T10 => ?_)
      refine wq_aload_n rfl rfl rfl ?_
      obtain ⟨y11, e12, h⟩ := od_bindE h
      refine wd_virtN (q := 56) (y := y11) (as := [36893488147419103288]) rfl rfl rfl (by decide) (Nat.le_of_ble_eq_true rfl) (Nat.le_of_ble_eq_true rfl) rfl (Nat.le_of_ble_eq_true rfl) rfl (dkT_77 T10 e12) (fun T14 => ?_)
      obtain ⟨y15, e16, h⟩ := od_letE h
      have p17 : y15 < 4294967296 := wd_lt e16 (Nat.mod_lt _ (by decide))
      refine wq_iincZ rfl rfl hv1 (Or.inr ⟨_, rfl, rfl⟩) rfl (z := y15) e16.symm (L' := [36893488147419103288, y15]) rfl ?_
      refine wq_goto rfl rfl ?_
      exact hr2 T14 p17 h
def dk_125_2 (n : Nat) : Nat → wq_F → Nat → Option (Nat × wq_F)
  | 0 => fun _ _ => none
  | g + 1 => dk_125_2b n (dk_125_2 n g)
theorem dk_125_2T {d n : Nat} : ∀ g : Nat, ∀ ⦃F : wq_F⦄ (hT : xm_T F) ⦃v1 : Nat⦄ (hv1 : v1 < 4294967296) ⦃x : Nat × wq_F⦄ (h : dk_125_2 n g F v1 = some x), wq (wq_cf (d + 6)) (ev_un al_mX4_moreNames.2.2.2.2) none 2 [36893488147419103288, v1] [] xm_sh F 0 0 (wkN xm_T xm_sh x)
  | 0 => by
    intro F hT v1 hv1 x h
    cases h
  | g + 1 => dk_125_2bT (dk_125_2T g)
/-- X4_moreNames -/
def dk_125 (n : Nat) (F : wq_F) : Option (Nat × wq_F) :=
  dk_125_2 n n F 0
theorem dkT_125 {d n : Nat} {F : wq_F} (hT : xm_T F) {x : Nat × wq_F} (h : dk_125 n F = some x) : mq (d + 6 + 1) 125 [36893488147419103288] xm_sh F (wkN xm_T xm_sh x) := by
  have e : ev_ent [36893488147419103288] = [36893488147419103288] := by
    rfl
  refine mq_of (maxL := 2) (rt := none) (code := (ev_un al_mX4_moreNames.2.2.2.2)) (L := [36893488147419103288, 73786976294838206464]) rfl (by rw [e]; exact Nat.le_of_ble_eq_true rfl) (by rw [e]; rfl) ?_
  unfold dk_125 at h
  refine wq_iconst rfl rfl ?_
  refine wq_istore_n rfl (wm_zlt (by decide)) (Nat.le_of_ble_eq_true rfl) (Or.inr ⟨_, rfl, rfl⟩) (L' := [36893488147419103288, 0]) rfl ?_
  exact dk_125_2T n hT (wm_zlt (by decide)) h
def dk_129_26 (F : wq_F) (v2 : Nat) (v3 : Nat) (v4 : Nat) : Option (Nat × wq_F) :=
  (dk_78 F 28 v2 v3 v4).bind fun y1 =>
  (dk_162 y1.2 ((v2 + v3) % 4294967296)).bind fun y5 =>
  some (0, y5.2)
theorem dk_129_26T {d : Nat} : ∀ ⦃u1 : Nat⦄ ⦃u5 : Nat⦄ ⦃F : wq_F⦄ (hT : xm_T F) ⦃v2 : Nat⦄ (hv2 : v2 < 4294967296) ⦃v3 : Nat⦄ (hv3 : v3 < 4294967296) ⦃v4 : Nat⦄ (hv4 : v4 < 4294967296) (hu1 : ev_isL u1 = false) (hu5 : ev_isL u5 = false) ⦃x : Nat × wq_F⦄ (h : dk_129_26 F v2 v3 v4 = some x), wq (wq_cf (d + 2)) (ev_un al_mX4_adjust.2.2.2.2) none 26 [36893488147419103288, u1, v2, v3, v4, u5] [] xm_sh F 0 0 (wkN xm_T xm_sh x) := by
  intro u1 u5 F hT v2 hv2 v3 hv3 v4 hv4 hu1 hu5 x h
  unfold dk_129_26 at h
  refine wq_aload_n rfl rfl rfl ?_
  refine wq_bipush rfl rfl ?_
  refine wq_iload_n rfl rfl hv2 ?_
  refine wq_iload_n rfl rfl hv3 ?_
  refine wq_iload rfl rfl hv4 ?_
  obtain ⟨y1, e2, h⟩ := od_bindE h
  refine wd_virtI (q := 56) (y := y1) (as := [36893488147419103288, 28, v2, v3, v4]) rfl rfl rfl (by decide) (Nat.le_of_ble_eq_true rfl) (Nat.le_of_ble_eq_true rfl) rfl (Nat.le_of_ble_eq_true rfl) rfl (dkT_78 hT (by decide) hv2 hv3 hv4 e2) (fun p3 T4 => ?_)
  refine wq_pop rfl (wq_notL p3) ?_
  refine wq_aload_n rfl rfl rfl ?_
  refine xm_getR (v := 36893488147419103291) (q := 56) rfl rfl (by decide) (by decide) (T4.r (k := 56) 3 58 rfl (by decide) rfl) ?_
  refine wq_iload_n rfl rfl hv2 ?_
  refine wq_iload_n rfl rfl hv3 ?_
  refine wq_iaddZ rfl hv2 hv3 (z := (v2 + v3) % 4294967296) rfl ?_
  obtain ⟨y5, e6, h⟩ := od_bindE h
  refine wd_virtN (q := 59) (y := y5) (as := [36893488147419103291, (v2 + v3) % 4294967296]) rfl rfl rfl (by decide) (Nat.le_of_ble_eq_true rfl) (Nat.le_of_ble_eq_true rfl) rfl (Nat.le_of_ble_eq_true rfl) rfl (dkT_162 T4 (Nat.mod_lt _ (by decide)) e6) (fun T8 => ?_)
  exact wq_ret rfl (wkON h T8)
def dk_129_12 (F : wq_F) (v1 : Nat) (v2 : Nat) (v3 : Nat) (v4 : Nat) (s0 : Nat) : Option (Nat × wq_F) :=
  if s0 = 0 then
    if (ev_oDiv v1 2) = v3 then
      (dk_162 F ((v2 + v3) % 4294967296)).bind fun y3 =>
      some (0, y3.2)
    else
      dk_129_26 F v2 v3 v4
  else
    dk_129_26 F v2 v3 v4
theorem dk_129_12T {d : Nat} : ∀ ⦃F : wq_F⦄ (hT : xm_T F) ⦃v1 : Nat⦄ (hv1 : v1 < 4294967296) ⦃v2 : Nat⦄ (hv2 : v2 < 4294967296) ⦃v3 : Nat⦄ (hv3 : v3 < 4294967296) ⦃v4 : Nat⦄ (hv4 : v4 < 4294967296) ⦃s0 : Nat⦄ (hs0 : s0 < 2) ⦃x : Nat × wq_F⦄ (h : dk_129_12 F v1 v2 v3 v4 s0 = some x), wq (wq_cf (d + 2)) (ev_un al_mX4_adjust.2.2.2.2) none 12 [36893488147419103288, v1, v2, v3, v4, 73786976294838206464] [s0] xm_sh F 0 0 (wkN xm_T xm_sh x) := by
  intro F hT v1 hv1 v2 hv2 v3 hv3 v4 hv4 s0 hs0 x h
  unfold dk_129_12 at h
  refine wq_istore rfl (wm_zlt hs0) (Nat.le_of_ble_eq_true rfl) (Or.inr ⟨_, rfl, (wq_notL hv4)⟩) (L' := [36893488147419103288, v1, v2, v3, v4, s0]) rfl ?_
  refine wq_iload rfl rfl (wm_zlt hs0) ?_
  refine wq_if_ne rfl rfl (wm_zlt hs0) (fun h1 => ?_) (fun h1 => ?_)
  · replace h := od_neg h h1
    exact dk_129_26T hT hv2 hv3 hv4 (wq_notL hv1) (wq_notL (wm_zlt hs0)) h
  · replace h := od_pos h h1
    refine wq_iload_n rfl rfl hv1 ?_
    refine wq_iconst rfl rfl ?_
    refine wq_idiv rfl hv1 (by decide) (by decide) ?_
    refine wq_iload_n rfl rfl hv3 ?_
    refine wq_ic_eq rfl rfl (wd_idiv _ _) hv3 (fun h2 => ?_) (fun h2 => ?_)
    · replace h := od_pos h h2
      refine wq_aload_n rfl rfl rfl ?_
      refine xm_getR (v := 36893488147419103291) (q := 56) rfl rfl (by decide) (by decide) (hT.r (k := 56) 3 58 rfl (by decide) rfl) ?_
      refine wq_iload_n rfl rfl hv2 ?_
      refine wq_iload_n rfl rfl hv3 ?_
      refine wq_iaddZ rfl hv2 hv3 (z := (v2 + v3) % 4294967296) rfl ?_
      obtain ⟨y3, e4, h⟩ := od_bindE h
      refine wd_virtN (q := 59) (y := y3) (as := [36893488147419103291, (v2 + v3) % 4294967296]) rfl rfl rfl (by decide) (Nat.le_of_ble_eq_true rfl) (Nat.le_of_ble_eq_true rfl) rfl (Nat.le_of_ble_eq_true rfl) rfl (dkT_162 hT (Nat.mod_lt _ (by decide)) e4) (fun T6 => ?_)
      exact wq_ret rfl (wkON h T6)
    · replace h := od_neg h h2
      exact dk_129_26T hT hv2 hv3 hv4 (wq_notL hv1) (wq_notL (wm_zlt hs0)) h
/-- X4_adjust -/
def dk_129 (F : wq_F) (a0 : Nat) (a1 : Nat) (a2 : Nat) (a3 : Nat) : Option (Nat × wq_F) :=
  if (ev_oAnd a0 1) = 1 then
    dk_129_12 F a0 a1 a2 a3 1
  else
    dk_129_12 F a0 a1 a2 a3 0
theorem dkT_129 {d : Nat} {F : wq_F} (hT : xm_T F) {a0 : Nat} (ha0 : a0 < 4294967296) {a1 : Nat} (ha1 : a1 < 4294967296) {a2 : Nat} (ha2 : a2 < 4294967296) {a3 : Nat} (ha3 : a3 < 4294967296) {x : Nat × wq_F} (h : dk_129 F a0 a1 a2 a3 = some x) : mq (d + 2 + 1) 129 [36893488147419103288, a0, a1, a2, a3] xm_sh F (wkN xm_T xm_sh x) := by
  have e : ev_ent [36893488147419103288, a0, a1, a2, a3] = [36893488147419103288, a0, a1, a2, a3] := by
    show 36893488147419103288 :: ev_ent [a0, a1, a2, a3] = _
    rw [wm_entI ha0, wm_entI ha1, wm_entI ha2, wm_entI ha3]
    rfl
  refine mq_of (maxL := 6) (rt := none) (code := (ev_un al_mX4_adjust.2.2.2.2)) (L := [36893488147419103288, a0, a1, a2, a3, 73786976294838206464]) rfl (by rw [e]; exact Nat.le_of_ble_eq_true rfl) (by rw [e]; rfl) ?_
  unfold dk_129 at h
  refine wq_iload_n rfl rfl ha0 ?_
  refine wq_iconst rfl rfl ?_
  refine wq_iand rfl ha0 (wm_zlt (by decide)) ?_
  refine wq_iconst rfl rfl ?_
  refine wq_ic_ne rfl rfl (wq_I_iand ha0 (wm_zlt (by decide))) (wm_zlt (by decide)) (fun h1 => ?_) (fun h1 => ?_)
  · replace h := od_neg h h1
    refine wq_iconst rfl rfl ?_
    exact dk_129_12T hT ha0 ha1 ha2 ha3 (by decide) h
  · replace h := od_pos h h1
    refine wq_iconst rfl rfl ?_
    refine wq_goto rfl rfl ?_
    exact dk_129_12T hT ha0 ha1 ha2 ha3 (by decide) h
/-- X4_assign -/
def dk_143 (F : wq_F) (a0 : Nat) (a1 : Nat) (a2 : Nat) : Option (Nat × wq_F) :=
  if a0 = 11 then
    (dk_112 F 12 a1 a2 4294967295).bind fun y6 =>
    some (0, y6.2)
  else
    (dk_112 F ((a0 + 1) % 4294967296) a1 a2 4294967295).bind fun y2 =>
    some (0, y2.2)
theorem dkT_143 {d : Nat} {F : wq_F} (hT : xm_T F) {a0 : Nat} (ha0 : a0 < 4294967296) {a1 : Nat} (ha1 : a1 < 4294967296) {a2 : Nat} (ha2 : a2 < 4294967296) {x : Nat × wq_F} (h : dk_143 F a0 a1 a2 = some x) : mq (d + 3 + 1) 143 [36893488147419103288, a0, a1, a2] xm_sh F (wkN xm_T xm_sh x) := by
  have e : ev_ent [36893488147419103288, a0, a1, a2] = [36893488147419103288, a0, a1, a2] := by
    show 36893488147419103288 :: ev_ent [a0, a1, a2] = _
    rw [wm_entI ha0, wm_entI ha1, wm_entI ha2]
    rfl
  refine mq_of (maxL := 4) (rt := none) (code := (ev_un al_mX4_assign.2.2.2.2)) (L := [36893488147419103288, a0, a1, a2]) rfl (by rw [e]; exact Nat.le_of_ble_eq_true rfl) (by rw [e]; rfl) ?_
  unfold dk_143 at h
  refine wq_iload_n rfl rfl ha0 ?_
  refine wq_bipush rfl rfl ?_
  refine wq_ic_ne rfl rfl ha0 (by decide) (fun h1 => ?_) (fun h1 => ?_)
  · replace h := od_neg h h1
    refine wq_aload_n rfl rfl rfl ?_
    refine wq_iload_n rfl rfl ha0 ?_
    refine wq_iconst rfl rfl ?_
    refine wq_iaddZ rfl ha0 (wm_zlt (by decide)) (z := (a0 + 1) % 4294967296) rfl ?_
    refine wq_iload_n rfl rfl ha1 ?_
    refine wq_iload_n rfl rfl ha2 ?_
    refine wq_iconst rfl rfl ?_
    obtain ⟨y2, e3, h⟩ := od_bindE h
    refine wd_virtN (q := 56) (y := y2) (as := [36893488147419103288, (a0 + 1) % 4294967296, a1, a2, 4294967295]) rfl rfl rfl (by decide) (Nat.le_of_ble_eq_true rfl) (Nat.le_of_ble_eq_true rfl) rfl (Nat.le_of_ble_eq_true rfl) rfl (dkT_112 hT (Nat.mod_lt _ (by decide)) ha1 ha2 (by decide) e3) (fun T5 => ?_)
    exact wq_ret rfl (wkON h T5)
  · replace h := od_pos h h1
    refine wq_aload_n rfl rfl rfl ?_
    refine wq_bipush rfl rfl ?_
    refine wq_iload_n rfl rfl ha1 ?_
    refine wq_iload_n rfl rfl ha2 ?_
    refine wq_iconst rfl rfl ?_
    obtain ⟨y6, e7, h⟩ := od_bindE h
    refine wd_virtN (q := 56) (y := y6) (as := [36893488147419103288, 12, a1, a2, 4294967295]) rfl rfl rfl (by decide) (Nat.le_of_ble_eq_true rfl) (Nat.le_of_ble_eq_true rfl) rfl (Nat.le_of_ble_eq_true rfl) rfl (dkT_112 hT (by decide) ha1 ha2 (by decide) e7) (fun T9 => ?_)
    refine wq_goto rfl rfl ?_
    exact wq_ret rfl (wkON h T9)
/-- X4_cutIfNeeded -/
def dk_132 (F : wq_F) (a0 : Nat) : Option (Nat × wq_F) :=
  (dk_84 F).bind fun y1 =>
  if y1.1 = a0 then
    some (0, y1.2)
  else
    (dk_113 y1.2 a0).bind fun y6 =>
    some (0, y6.2)
theorem dkT_132 {d : Nat} {F : wq_F} (hT : xm_T F) {a0 : Nat} (ha0 : a0 < 4294967296) {x : Nat × wq_F} (h : dk_132 F a0 = some x) : mq (d + 3 + 1) 132 [36893488147419103288, a0] xm_sh F (wkN xm_T xm_sh x) := by
  have e : ev_ent [36893488147419103288, a0] = [36893488147419103288, a0] := by
    show 36893488147419103288 :: ev_ent [a0] = _
    rw [wm_entI ha0]
    rfl
  refine mq_of (maxL := 2) (rt := none) (code := (ev_un al_mX4_cutIfNeeded.2.2.2.2)) (L := [36893488147419103288, a0]) rfl (by rw [e]; exact Nat.le_of_ble_eq_true rfl) (by rw [e]; rfl) ?_
  unfold dk_132 at h
  refine wq_aload_n rfl rfl rfl ?_
  refine xm_getR (v := 36893488147419103291) (q := 56) rfl rfl (by decide) (by decide) (hT.r (k := 56) 3 58 rfl (by decide) rfl) ?_
  obtain ⟨y1, e2, h⟩ := od_bindE h
  refine wd_virtI (q := 59) (y := y1) (as := [36893488147419103291]) rfl rfl rfl (by decide) (Nat.le_of_ble_eq_true rfl) (Nat.le_of_ble_eq_true rfl) rfl (Nat.le_of_ble_eq_true rfl) rfl (dkT_84 hT e2) (fun p3 T4 => ?_)
  refine wq_iload_n rfl rfl ha0 ?_
  refine wq_ic_eq rfl rfl p3 ha0 (fun h5 => ?_) (fun h5 => ?_)
  · replace h := od_pos h h5
    exact wq_ret rfl (wkON h T4)
  · replace h := od_neg h h5
    refine wq_aload_n rfl rfl rfl ?_
    refine wq_iload_n rfl rfl ha0 ?_
    obtain ⟨y6, e7, h⟩ := od_bindE h
    refine wd_virtN (q := 56) (y := y6) (as := [36893488147419103288, a0]) rfl rfl rfl (by decide) (Nat.le_of_ble_eq_true rfl) (Nat.le_of_ble_eq_true rfl) rfl (Nat.le_of_ble_eq_true rfl) rfl (dkT_113 T4 ha0 e7) (fun T9 => ?_)
    exact wq_ret rfl (wkON h T9)
/-- X4_breakStatement -/
def dk_118 (n : Nat) (F : wq_F) : Option (Nat × wq_F) :=
  (dk_164 F).bind fun y1 =>
  if y1.1 = 4294967294 then
    (dk_109 y1.2 4).bind fun y22 =>
    some (0, y22.2)
  else
    (dk_77 n y1.2).bind fun y6 =>
    (dk_164 y6.2).bind fun y10 =>
    (dk_78 y10.2 21 0 y10.1 0).bind fun y14 =>
    (dk_165 y14.2 y14.1).bind fun y18 =>
    some (0, y18.2)
theorem dkT_118 {d n : Nat} {F : wq_F} (hT : xm_T F) {x : Nat × wq_F} (h : dk_118 n F = some x) : mq (d + 6 + 1) 118 [36893488147419103288] xm_sh F (wkN xm_T xm_sh x) := by
  have e : ev_ent [36893488147419103288] = [36893488147419103288] := by
    rfl
  refine mq_of (maxL := 1) (rt := none) (code := (ev_un al_mX4_breakStatement.2.2.2.2)) (L := [36893488147419103288]) rfl (by rw [e]; exact Nat.le_of_ble_eq_true rfl) (by rw [e]; rfl) ?_
  unfold dk_118 at h
  refine wq_aload_n rfl rfl rfl ?_
  refine xm_getR (v := 36893488147419103291) (q := 56) rfl rfl (by decide) (by decide) (hT.r (k := 56) 3 58 rfl (by decide) rfl) ?_
  obtain ⟨y1, e2, h⟩ := od_bindE h
  refine wd_virtI (q := 59) (y := y1) (as := [36893488147419103291]) rfl rfl rfl (by decide) (Nat.le_of_ble_eq_true rfl) (Nat.le_of_ble_eq_true rfl) rfl (Nat.le_of_ble_eq_true rfl) rfl (dkT_164 hT e2) (fun p3 T4 => ?_)
  refine wq_bipush rfl rfl ?_
  refine wq_ic_ne rfl rfl p3 (by decide) (fun h5 => ?_) (fun h5 => ?_)
  · replace h := od_neg h h5
    refine wq_aload_n rfl rfl rfl ?_
    obtain ⟨y6, e7, h⟩ := od_bindE h
    refine wd_virtN (q := 56) (y := y6) (as := [36893488147419103288]) rfl rfl rfl (by decide) (Nat.le_of_ble_eq_true rfl) (Nat.le_of_ble_eq_true rfl) rfl (Nat.le_of_ble_eq_true rfl) rfl (dkT_77 T4 e7) (fun T9 => ?_)
    refine wq_aload_n rfl rfl rfl ?_
    refine xm_getR (v := 36893488147419103291) (q := 56) rfl rfl (by decide) (by decide) (T9.r (k := 56) 3 58 rfl (by decide) rfl) ?_
    refine wq_aload_n rfl rfl rfl ?_
    refine wq_bipush rfl rfl ?_
    refine wq_iconst rfl rfl ?_
    refine wq_aload_n rfl rfl rfl ?_
    refine xm_getR (v := 36893488147419103291) (q := 56) rfl rfl (by decide) (by decide) (T9.r (k := 56) 3 58 rfl (by decide) rfl) ?_
    obtain ⟨y10, e11, h⟩ := od_bindE h
    refine wd_virtI (q := 59) (y := y10) (as := [36893488147419103291]) rfl rfl rfl (by decide) (Nat.le_of_ble_eq_true rfl) (Nat.le_of_ble_eq_true rfl) rfl (Nat.le_of_ble_eq_true rfl) rfl (dkT_164 T9 e11) (fun p12 T13 => ?_)
    refine wq_iconst rfl rfl ?_
    obtain ⟨y14, e15, h⟩ := od_bindE h
    refine wd_virtI (q := 56) (y := y14) (as := [36893488147419103288, 21, 0, y10.1, 0]) rfl rfl rfl (by decide) (Nat.le_of_ble_eq_true rfl) (Nat.le_of_ble_eq_true rfl) rfl (Nat.le_of_ble_eq_true rfl) rfl (dkT_78 T13 (by decide) (wm_zlt (by decide)) p12 (wm_zlt (by decide)) e15) (fun p16 T17 => ?_)
    obtain ⟨y18, e19, h⟩ := od_bindE h
    refine wd_virtN (q := 59) (y := y18) (as := [36893488147419103291, y14.1]) rfl rfl rfl (by decide) (Nat.le_of_ble_eq_true rfl) (Nat.le_of_ble_eq_true rfl) rfl (Nat.le_of_ble_eq_true rfl) rfl (dkT_165 T17 p16 e19) (fun T21 => ?_)
    exact wq_ret rfl (wkON h T21)
  · replace h := od_pos h h5
    refine wq_aload_n rfl rfl rfl ?_
    refine wq_iconst rfl rfl ?_
    obtain ⟨y22, e23, h⟩ := od_bindE h
    refine wd_virtN (q := 56) (y := y22) (as := [36893488147419103288, 4]) rfl rfl rfl (by decide) (Nat.le_of_ble_eq_true rfl) (Nat.le_of_ble_eq_true rfl) rfl (Nat.le_of_ble_eq_true rfl) rfl (dkT_109 T4 (by decide) e23) (fun T25 => ?_)
    exact wq_ret rfl (wkON h T25)
def dk_142_29 (F : wq_F) (s0 : Nat) : Option (Nat × wq_F) :=
  if s0 = 0 then
    (dk_109 F 2).bind fun y2 =>
    some (0, y2.2)
  else
    if 2147483648 ≤ (F 56 7) then
      (dk_109 F 2).bind fun y7 =>
      some (0, y7.2)
    else
      if ev_s 1320 < ev_s (((F 56 11) + 3) % 4294967296) then
        (dk_109 F 2).bind fun y36 =>
        some (0, y36.2)
      else
        od_g (F 56 11 < 1320) <|
        od_up F 58 (F 56 11) (F 56 7) fun F13 =>
        od_let (((F13 56 11) + 1) % 4294967296) fun y16 =>
        od_g (y16 < 1320) <|
        od_up F13 58 y16 (F13 56 8) fun F20 =>
        od_let (((F20 56 11) + 2) % 4294967296) fun y23 =>
        od_g (y23 < 1320) <|
        od_up F20 58 y23 (F20 56 9) fun F27 =>
        od_let (((F27 56 11) + 3) % 4294967296) fun y30 =>
        od_up F27 56 11 y30 fun F33 =>
        some (0, F33)
theorem dk_142_29T {d : Nat} : ∀ ⦃F : wq_F⦄ (hT : xm_T F) ⦃s0 : Nat⦄ (hs0 : s0 < 2) ⦃x : Nat × wq_F⦄ (h : dk_142_29 F s0 = some x), wq (wq_cf (d + 2)) (ev_un al_mX4_notePlace.2.2.2.2) none 29 [36893488147419103288, 73786976294838206464] [s0] xm_sh F 0 0 (wkN xm_T xm_sh x) := by
  intro F hT s0 hs0 x h
  unfold dk_142_29 at h
  refine wq_istore_n rfl (wm_zlt hs0) (Nat.le_of_ble_eq_true rfl) (Or.inr ⟨_, rfl, rfl⟩) (L' := [36893488147419103288, s0]) rfl ?_
  refine wq_iload_n rfl rfl (wm_zlt hs0) ?_
  refine wq_if_eq rfl rfl (wm_zlt hs0) (fun h1 => ?_) (fun h1 => ?_)
  · replace h := od_pos h h1
    refine wq_aload_n rfl rfl rfl ?_
    refine wq_iconst rfl rfl ?_
    obtain ⟨y2, e3, h⟩ := od_bindE h
    refine wd_virtN (q := 56) (y := y2) (as := [36893488147419103288, 2]) rfl rfl rfl (by decide) (Nat.le_of_ble_eq_true rfl) (Nat.le_of_ble_eq_true rfl) rfl (Nat.le_of_ble_eq_true rfl) rfl (dkT_109 hT (by decide) e3) (fun T5 => ?_)
    exact wq_ret rfl (wkON h T5)
  · replace h := od_neg h h1
    refine wq_aload_n rfl rfl rfl ?_
    refine xm_getI (q := 56) rfl rfl (by decide) (by decide) ?_
    refine wq_if_lt rfl rfl (hT.i (k := 56) 7 rfl (by decide) rfl) (fun h6 => ?_) (fun h6 => ?_)
    · replace h := od_pos h h6
      refine wq_aload_n rfl rfl rfl ?_
      refine wq_iconst rfl rfl ?_
      obtain ⟨y7, e8, h⟩ := od_bindE h
      refine wd_virtN (q := 56) (y := y7) (as := [36893488147419103288, 2]) rfl rfl rfl (by decide) (Nat.le_of_ble_eq_true rfl) (Nat.le_of_ble_eq_true rfl) rfl (Nat.le_of_ble_eq_true rfl) rfl (dkT_109 hT (by decide) e8) (fun T10 => ?_)
      exact wq_ret rfl (wkON h T10)
    · replace h := od_neg h (Nat.not_le.mpr h6)
      refine wq_aload_n rfl rfl rfl ?_
      refine xm_getI (q := 56) rfl rfl (by decide) (by decide) ?_
      refine wq_iconst rfl rfl ?_
      refine wq_iaddZ rfl (hT.i (k := 56) 11 rfl (by decide) rfl) (by decide) (z := ((F 56 11) + 3) % 4294967296) rfl ?_
      refine wq_aload_n rfl rfl rfl ?_
      refine xm_getR (v := 36893488147419103290) (q := 56) rfl rfl (by decide) (by decide) (hT.r (k := 56) 10 57 rfl (by decide) rfl) ?_
      refine wq_alen (q := 58) rfl rfl (by decide) (by decide) (by decide) ?_
      refine wq_ic_le rfl rfl (Nat.mod_lt _ (by decide)) (by decide) (fun h11 => ?_) (fun h11 => ?_)
      · replace h := od_neg h (Nat.not_lt.mpr h11)
        refine wq_aload_n rfl rfl rfl ?_
        refine xm_getR (v := 36893488147419103290) (q := 56) rfl rfl (by decide) (by decide) (hT.r (k := 56) 10 57 rfl (by decide) rfl) ?_
        refine wq_aload_n rfl rfl rfl ?_
        refine xm_getI (q := 56) rfl rfl (by decide) (by decide) ?_
        refine wq_aload_n rfl rfl rfl ?_
        refine xm_getI (q := 56) rfl rfl (by decide) (by decide) ?_
        obtain ⟨g12, h⟩ := od_gE h
        obtain ⟨F13, e14, h⟩ := od_upE h
        refine wd_iastore (q := 58) (n := 1320) rfl rfl (by decide) g12 (by decide) (hT.i (k := 56) 7 rfl (by decide) rfl) e14 ?_
        have T15 : xm_T F13 := wd_T e14 (hT.ua (k := 58) (kd := 1000) (n := 1320) (i := F 56 11) (v := F 56 7) rfl (by decide) g12 (show F 56 7 < 4294967296 from (hT.i (k := 56) 7 rfl (by decide) rfl)))
        refine wq_aload_n rfl rfl rfl ?_
        refine xm_getR (v := 36893488147419103290) (q := 56) rfl rfl (by decide) (by decide) (T15.r (k := 56) 10 57 rfl (by decide) rfl) ?_
        refine wq_aload_n rfl rfl rfl ?_
        refine xm_getI (q := 56) rfl rfl (by decide) (by decide) ?_
        refine wq_iconst rfl rfl ?_
        refine wq_iaddZ rfl (T15.i (k := 56) 11 rfl (by decide) rfl) (wm_zlt (by decide)) (z := ((F13 56 11) + 1) % 4294967296) rfl ?_
        obtain ⟨y16, e17, h⟩ := od_letE h
        refine wq_top e17.symm ?_
        have p18 : y16 < 4294967296 := wd_lt e17 (Nat.mod_lt _ (by decide))
        refine wq_aload_n rfl rfl rfl ?_
        refine xm_getI (q := 56) rfl rfl (by decide) (by decide) ?_
        obtain ⟨g19, h⟩ := od_gE h
        obtain ⟨F20, e21, h⟩ := od_upE h
        refine wd_iastore (q := 58) (n := 1320) rfl rfl (by decide) g19 (by decide) (T15.i (k := 56) 8 rfl (by decide) rfl) e21 ?_
        have T22 : xm_T F20 := wd_T e21 (T15.ua (k := 58) (kd := 1000) (n := 1320) (i := y16) (v := F13 56 8) rfl (by decide) g19 (show F13 56 8 < 4294967296 from (T15.i (k := 56) 8 rfl (by decide) rfl)))
        refine wq_aload_n rfl rfl rfl ?_
        refine xm_getR (v := 36893488147419103290) (q := 56) rfl rfl (by decide) (by decide) (T22.r (k := 56) 10 57 rfl (by decide) rfl) ?_
        refine wq_aload_n rfl rfl rfl ?_
        refine xm_getI (q := 56) rfl rfl (by decide) (by decide) ?_
        refine wq_iconst rfl rfl ?_
        refine wq_iaddZ rfl (T22.i (k := 56) 11 rfl (by decide) rfl) (by decide) (z := ((F20 56 11) + 2) % 4294967296) rfl ?_
        obtain ⟨y23, e24, h⟩ := od_letE h
        refine wq_top e24.symm ?_
        have p25 : y23 < 4294967296 := wd_lt e24 (Nat.mod_lt _ (by decide))
        refine wq_aload_n rfl rfl rfl ?_
        refine xm_getI (q := 56) rfl rfl (by decide) (by decide) ?_
        obtain ⟨g26, h⟩ := od_gE h
        obtain ⟨F27, e28, h⟩ := od_upE h
        refine wd_iastore (q := 58) (n := 1320) rfl rfl (by decide) g26 (by decide) (T22.i (k := 56) 9 rfl (by decide) rfl) e28 ?_
        have T29 : xm_T F27 := wd_T e28 (T22.ua (k := 58) (kd := 1000) (n := 1320) (i := y23) (v := F20 56 9) rfl (by decide) g26 (show F20 56 9 < 4294967296 from (T22.i (k := 56) 9 rfl (by decide) rfl)))
        refine wq_aload_n rfl rfl rfl ?_
        refine wq_dup rfl rfl ?_
        refine xm_getI (q := 56) rfl rfl (by decide) (by decide) ?_
        refine wq_iconst rfl rfl ?_
        refine wq_iaddZ rfl (T29.i (k := 56) 11 rfl (by decide) rfl) (by decide) (z := ((F27 56 11) + 3) % 4294967296) rfl ?_
        obtain ⟨y30, e31, h⟩ := od_letE h
        refine wq_top e31.symm ?_
        have p32 : y30 < 4294967296 := wd_lt e31 (Nat.mod_lt _ (by decide))
        obtain ⟨F33, e34, h⟩ := od_upE h
        refine xmE_put (q := 56) rfl rfl (by decide) (by decide) (wq_I p32) e34 ?_
        have T35 : xm_T F33 := wd_T e34 (T29.uf (k := 56) (f := 11) (c := 0) (v := y30) rfl (by decide) rfl (show y30 < 4294967296 from p32))
        exact wq_ret rfl (wkON h T35)
      · replace h := od_pos h h11
        refine wq_aload_n rfl rfl rfl ?_
        refine wq_iconst rfl rfl ?_
        obtain ⟨y36, e37, h⟩ := od_bindE h
        refine wd_virtN (q := 56) (y := y36) (as := [36893488147419103288, 2]) rfl rfl rfl (by decide) (Nat.le_of_ble_eq_true rfl) (Nat.le_of_ble_eq_true rfl) rfl (Nat.le_of_ble_eq_true rfl) rfl (dkT_109 hT (by decide) e37) (fun T39 => ?_)
        exact wq_ret rfl (wkON h T39)
/-- X4_notePlace -/
def dk_142 (F : wq_F) : Option (Nat × wq_F) :=
  if (F 57 4) = 49 then
    dk_142_29 F 1
  else
    if (F 57 4) = 59 then
      dk_142_29 F 1
    else
      dk_142_29 F 0
theorem dkT_142 {d : Nat} {F : wq_F} (hT : xm_T F) {x : Nat × wq_F} (h : dk_142 F = some x) : mq (d + 2 + 1) 142 [36893488147419103288] xm_sh F (wkN xm_T xm_sh x) := by
  have e : ev_ent [36893488147419103288] = [36893488147419103288] := by
    rfl
  refine mq_of (maxL := 2) (rt := none) (code := (ev_un al_mX4_notePlace.2.2.2.2)) (L := [36893488147419103288, 73786976294838206464]) rfl (by rw [e]; exact Nat.le_of_ble_eq_true rfl) (by rw [e]; rfl) ?_
  unfold dk_142 at h
  refine wq_aload_n rfl rfl rfl ?_
  refine xm_getR (v := 36893488147419103289) (q := 56) rfl rfl (by decide) (by decide) (hT.r (k := 56) 0 56 rfl (by decide) rfl) ?_
  refine xm_getI (q := 57) rfl rfl (by decide) (by decide) ?_
  refine wq_bipush rfl rfl ?_
  refine wq_ic_eq rfl rfl (hT.i (k := 57) 4 rfl (by decide) rfl) (by decide) (fun h1 => ?_) (fun h1 => ?_)
  · replace h := od_pos h h1
    refine wq_iconst rfl rfl ?_
    refine wq_goto rfl rfl ?_
    exact dk_142_29T hT (by decide) h
  · replace h := od_neg h h1
    refine wq_aload_n rfl rfl rfl ?_
    refine xm_getR (v := 36893488147419103289) (q := 56) rfl rfl (by decide) (by decide) (hT.r (k := 56) 0 56 rfl (by decide) rfl) ?_
    refine xm_getI (q := 57) rfl rfl (by decide) (by decide) ?_
    refine wq_bipush rfl rfl ?_
    refine wq_ic_ne rfl rfl (hT.i (k := 57) 4 rfl (by decide) rfl) (by decide) (fun h2 => ?_) (fun h2 => ?_)
    · replace h := od_neg h h2
      refine wq_iconst rfl rfl ?_
      exact dk_142_29T hT (by decide) h
    · replace h := od_pos h h2
      refine wq_iconst rfl rfl ?_
      refine wq_goto rfl rfl ?_
      exact dk_142_29T hT (by decide) h
abbrev dk_Rt : Type := Nat → List Nat → wq_F → Option (Nat × wq_F)
/-- what the methods that call each other answer -/
def dk_spec (d : Nat) (R : dk_Rt) : Prop := (∀ {F : wq_F} (_ : xm_T F) {a0 : Nat} (_ : a0 < 4294967296) {x : Nat × wq_F} (_ : R 80 [a0] F = some x), mq d 80 [36893488147419103288, a0] xm_sh F (wkN xm_T xm_sh x)) ∧ (∀ {F : wq_F} (_ : xm_T F) {a0 : Nat} (_ : a0 < 4294967296) {x : Nat × wq_F} (_ : R 115 [a0] F = some x), mq d 115 [36893488147419103288, a0] xm_sh F (wkN xm_T xm_sh x)) ∧ (∀ {F : wq_F} (_ : xm_T F) {a0 : Nat} (_ : a0 < 4294967296) {x : Nat × wq_F} (_ : R 116 [a0] F = some x), mq d 116 [36893488147419103288, a0] xm_sh F (wkN xm_T xm_sh x)) ∧ (∀ {F : wq_F} (_ : xm_T F) {a0 : Nat} (_ : a0 < 4294967296) {x : Nat × wq_F} (_ : R 117 [a0] F = some x), mq d 117 [36893488147419103288, a0] xm_sh F (wkN xm_T xm_sh x)) ∧ (∀ {F : wq_F} (_ : xm_T F) {a0 : Nat} (_ : a0 < 4294967296) {x : Nat × wq_F} (_ : R 119 [a0] F = some x), mq d 119 [36893488147419103288, a0] xm_sh F (wkN xm_T xm_sh x)) ∧ (∀ {F : wq_F} (_ : xm_T F) {a0 : Nat} (_ : a0 < 4294967296) {x : Nat × wq_F} (_ : R 121 [a0] F = some x), mq d 121 [36893488147419103288, a0] xm_sh F (wkN xm_T xm_sh x)) ∧ (∀ {F : wq_F} (_ : xm_T F) {a0 : Nat} (_ : a0 < 4294967296) {x : Nat × wq_F} (_ : R 122 [a0] F = some x), mq d 122 [36893488147419103288, a0] xm_sh F (wkN xm_T xm_sh x)) ∧ (∀ {F : wq_F} (_ : xm_T F) {a0 : Nat} (_ : a0 < 4294967296) {x : Nat × wq_F} (_ : R 123 [a0] F = some x), mq d 123 [36893488147419103288, a0] xm_sh F (wkI xm_T xm_sh x)) ∧ (∀ {F : wq_F} (_ : xm_T F) {a0 : Nat} (_ : a0 < 4294967296) {x : Nat × wq_F} (_ : R 126 [a0] F = some x), mq d 126 [36893488147419103288, a0] xm_sh F (wkN xm_T xm_sh x)) ∧ (∀ {F : wq_F} (_ : xm_T F) {a0 : Nat} (_ : a0 < 4294967296) {a1 : Nat} (_ : a1 < 4294967296) {a2 : Nat} (_ : a2 < 4294967296) {x : Nat × wq_F} (_ : R 127 [a0, a1, a2] F = some x), mq d 127 [36893488147419103288, a0, a1, a2] xm_sh F (wkN xm_T xm_sh x)) ∧ (∀ {F : wq_F} (_ : xm_T F) {a0 : Nat} (_ : a0 < 4294967296) {a1 : Nat} (_ : a1 < 4294967296) {x : Nat × wq_F} (_ : R 128 [a0, a1] F = some x), mq d 128 [36893488147419103288, a0, a1] xm_sh F (wkN xm_T xm_sh x)) ∧ (∀ {F : wq_F} (_ : xm_T F) {a0 : Nat} (_ : a0 < 4294967296) {x : Nat × wq_F} (_ : R 130 [a0] F = some x), mq d 130 [36893488147419103288, a0] xm_sh F (wkN xm_T xm_sh x)) ∧ (∀ {F : wq_F} (_ : xm_T F) {a0 : Nat} (_ : a0 < 4294967296) {x : Nat × wq_F} (_ : R 131 [a0] F = some x), mq d 131 [36893488147419103288, a0] xm_sh F (wkN xm_T xm_sh x)) ∧ (∀ {F : wq_F} (_ : xm_T F) {a0 : Nat} (_ : a0 < 4294967296) {x : Nat × wq_F} (_ : R 137 [a0] F = some x), mq d 137 [36893488147419103288, a0] xm_sh F (wkN xm_T xm_sh x)) ∧ (∀ {F : wq_F} (_ : xm_T F) {a0 : Nat} (_ : a0 < 4294967296) {x : Nat × wq_F} (_ : R 138 [a0] F = some x), mq d 138 [36893488147419103288, a0] xm_sh F (wkZ xm_T xm_sh x)) ∧ (∀ {F : wq_F} (_ : xm_T F) {a0 : Nat} (_ : a0 < 4294967296) {a1 : Nat} (_ : a1 < 4294967296) {x : Nat × wq_F} (_ : R 139 [a0, a1] F = some x), mq d 139 [36893488147419103288, a0, a1] xm_sh F (wkN xm_T xm_sh x)) ∧ (∀ {F : wq_F} (_ : xm_T F) {a0 : Nat} (_ : a0 < 4294967296) {x : Nat × wq_F} (_ : R 140 [a0] F = some x), mq d 140 [36893488147419103288, a0] xm_sh F (wkN xm_T xm_sh x)) ∧ (∀ {F : wq_F} (_ : xm_T F) {a0 : Nat} (_ : a0 < 4294967296) {a1 : Nat} (_ : a1 < 4294967296) {x : Nat × wq_F} (_ : R 141 [a0, a1] F = some x), mq d 141 [36893488147419103288, a0, a1] xm_sh F (wkN xm_T xm_sh x)) ∧ (∀ {F : wq_F} (_ : xm_T F) {a0 : Nat} (_ : a0 < 4294967296) {x : Nat × wq_F} (_ : R 144 [a0] F = some x), mq d 144 [36893488147419103288, a0] xm_sh F (wkI xm_T xm_sh x)) ∧ (∀ {F : wq_F} (_ : xm_T F) {a0 : Nat} (_ : a0 < 4294967296) {a1 : Nat} (_ : a1 < 4294967296) {x : Nat × wq_F} (_ : R 148 [a0, a1] F = some x), mq d 148 [36893488147419103288, a0, a1] xm_sh F (wkZ xm_T xm_sh x)) ∧ (∀ {F : wq_F} (_ : xm_T F) {a0 : Nat} (_ : a0 < 4294967296) {x : Nat × wq_F} (_ : R 149 [a0] F = some x), mq d 149 [36893488147419103288, a0] xm_sh F (wkN xm_T xm_sh x)) ∧ (∀ {F : wq_F} (_ : xm_T F) {a0 : Nat} (_ : a0 < 4294967296) {x : Nat × wq_F} (_ : R 150 [a0] F = some x), mq d 150 [36893488147419103288, a0] xm_sh F (wkZ xm_T xm_sh x)) ∧ (∀ {F : wq_F} (_ : xm_T F) {a0 : Nat} (_ : a0 < 4294967296) {x : Nat × wq_F} (_ : R 151 [a0] F = some x), mq d 151 [36893488147419103288, a0] xm_sh F (wkN xm_T xm_sh x)) ∧ (∀ {F : wq_F} (_ : xm_T F) {a0 : Nat} (_ : a0 < 4294967296) {x : Nat × wq_F} (_ : R 153 [a0] F = some x), mq d 153 [36893488147419103288, a0] xm_sh F (wkN xm_T xm_sh x)) ∧ (∀ {F : wq_F} (_ : xm_T F) {a0 : Nat} (_ : a0 < 4294967296) {a1 : Nat} (_ : a1 < 4294967296) {a2 : Nat} (_ : a2 < 4294967296) {x : Nat × wq_F} (_ : R 154 [a0, a1, a2] F = some x), mq d 154 [36893488147419103288, a0, a1, a2] xm_sh F (wkN xm_T xm_sh x)) ∧ (∀ {F : wq_F} (_ : xm_T F) {a0 : Nat} (_ : a0 < 4294967296) {a1 : Nat} (_ : a1 < 2) {x : Nat × wq_F} (_ : R 155 [a0, a1] F = some x), mq d 155 [36893488147419103288, a0, a1] xm_sh F (wkN xm_T xm_sh x))
theorem dk_s80 {d : Nat} {R : dk_Rt} (h : dk_spec d R) : ∀ {F : wq_F} (_ : xm_T F) {a0 : Nat} (_ : a0 < 4294967296) {x : Nat × wq_F} (_ : R 80 [a0] F = some x), mq d 80 [36893488147419103288, a0] xm_sh F (wkN xm_T xm_sh x) := h.1
theorem dk_s115 {d : Nat} {R : dk_Rt} (h : dk_spec d R) : ∀ {F : wq_F} (_ : xm_T F) {a0 : Nat} (_ : a0 < 4294967296) {x : Nat × wq_F} (_ : R 115 [a0] F = some x), mq d 115 [36893488147419103288, a0] xm_sh F (wkN xm_T xm_sh x) := h.2.1
theorem dk_s116 {d : Nat} {R : dk_Rt} (h : dk_spec d R) : ∀ {F : wq_F} (_ : xm_T F) {a0 : Nat} (_ : a0 < 4294967296) {x : Nat × wq_F} (_ : R 116 [a0] F = some x), mq d 116 [36893488147419103288, a0] xm_sh F (wkN xm_T xm_sh x) := h.2.2.1
theorem dk_s117 {d : Nat} {R : dk_Rt} (h : dk_spec d R) : ∀ {F : wq_F} (_ : xm_T F) {a0 : Nat} (_ : a0 < 4294967296) {x : Nat × wq_F} (_ : R 117 [a0] F = some x), mq d 117 [36893488147419103288, a0] xm_sh F (wkN xm_T xm_sh x) := h.2.2.2.1
theorem dk_s119 {d : Nat} {R : dk_Rt} (h : dk_spec d R) : ∀ {F : wq_F} (_ : xm_T F) {a0 : Nat} (_ : a0 < 4294967296) {x : Nat × wq_F} (_ : R 119 [a0] F = some x), mq d 119 [36893488147419103288, a0] xm_sh F (wkN xm_T xm_sh x) := h.2.2.2.2.1
theorem dk_s121 {d : Nat} {R : dk_Rt} (h : dk_spec d R) : ∀ {F : wq_F} (_ : xm_T F) {a0 : Nat} (_ : a0 < 4294967296) {x : Nat × wq_F} (_ : R 121 [a0] F = some x), mq d 121 [36893488147419103288, a0] xm_sh F (wkN xm_T xm_sh x) := h.2.2.2.2.2.1
theorem dk_s122 {d : Nat} {R : dk_Rt} (h : dk_spec d R) : ∀ {F : wq_F} (_ : xm_T F) {a0 : Nat} (_ : a0 < 4294967296) {x : Nat × wq_F} (_ : R 122 [a0] F = some x), mq d 122 [36893488147419103288, a0] xm_sh F (wkN xm_T xm_sh x) := h.2.2.2.2.2.2.1
theorem dk_s123 {d : Nat} {R : dk_Rt} (h : dk_spec d R) : ∀ {F : wq_F} (_ : xm_T F) {a0 : Nat} (_ : a0 < 4294967296) {x : Nat × wq_F} (_ : R 123 [a0] F = some x), mq d 123 [36893488147419103288, a0] xm_sh F (wkI xm_T xm_sh x) := h.2.2.2.2.2.2.2.1
theorem dk_s126 {d : Nat} {R : dk_Rt} (h : dk_spec d R) : ∀ {F : wq_F} (_ : xm_T F) {a0 : Nat} (_ : a0 < 4294967296) {x : Nat × wq_F} (_ : R 126 [a0] F = some x), mq d 126 [36893488147419103288, a0] xm_sh F (wkN xm_T xm_sh x) := h.2.2.2.2.2.2.2.2.1
theorem dk_s127 {d : Nat} {R : dk_Rt} (h : dk_spec d R) : ∀ {F : wq_F} (_ : xm_T F) {a0 : Nat} (_ : a0 < 4294967296) {a1 : Nat} (_ : a1 < 4294967296) {a2 : Nat} (_ : a2 < 4294967296) {x : Nat × wq_F} (_ : R 127 [a0, a1, a2] F = some x), mq d 127 [36893488147419103288, a0, a1, a2] xm_sh F (wkN xm_T xm_sh x) := h.2.2.2.2.2.2.2.2.2.1
theorem dk_s128 {d : Nat} {R : dk_Rt} (h : dk_spec d R) : ∀ {F : wq_F} (_ : xm_T F) {a0 : Nat} (_ : a0 < 4294967296) {a1 : Nat} (_ : a1 < 4294967296) {x : Nat × wq_F} (_ : R 128 [a0, a1] F = some x), mq d 128 [36893488147419103288, a0, a1] xm_sh F (wkN xm_T xm_sh x) := h.2.2.2.2.2.2.2.2.2.2.1
theorem dk_s130 {d : Nat} {R : dk_Rt} (h : dk_spec d R) : ∀ {F : wq_F} (_ : xm_T F) {a0 : Nat} (_ : a0 < 4294967296) {x : Nat × wq_F} (_ : R 130 [a0] F = some x), mq d 130 [36893488147419103288, a0] xm_sh F (wkN xm_T xm_sh x) := h.2.2.2.2.2.2.2.2.2.2.2.1
theorem dk_s131 {d : Nat} {R : dk_Rt} (h : dk_spec d R) : ∀ {F : wq_F} (_ : xm_T F) {a0 : Nat} (_ : a0 < 4294967296) {x : Nat × wq_F} (_ : R 131 [a0] F = some x), mq d 131 [36893488147419103288, a0] xm_sh F (wkN xm_T xm_sh x) := h.2.2.2.2.2.2.2.2.2.2.2.2.1
theorem dk_s137 {d : Nat} {R : dk_Rt} (h : dk_spec d R) : ∀ {F : wq_F} (_ : xm_T F) {a0 : Nat} (_ : a0 < 4294967296) {x : Nat × wq_F} (_ : R 137 [a0] F = some x), mq d 137 [36893488147419103288, a0] xm_sh F (wkN xm_T xm_sh x) := h.2.2.2.2.2.2.2.2.2.2.2.2.2.1
theorem dk_s138 {d : Nat} {R : dk_Rt} (h : dk_spec d R) : ∀ {F : wq_F} (_ : xm_T F) {a0 : Nat} (_ : a0 < 4294967296) {x : Nat × wq_F} (_ : R 138 [a0] F = some x), mq d 138 [36893488147419103288, a0] xm_sh F (wkZ xm_T xm_sh x) := h.2.2.2.2.2.2.2.2.2.2.2.2.2.2.1
theorem dk_s139 {d : Nat} {R : dk_Rt} (h : dk_spec d R) : ∀ {F : wq_F} (_ : xm_T F) {a0 : Nat} (_ : a0 < 4294967296) {a1 : Nat} (_ : a1 < 4294967296) {x : Nat × wq_F} (_ : R 139 [a0, a1] F = some x), mq d 139 [36893488147419103288, a0, a1] xm_sh F (wkN xm_T xm_sh x) := h.2.2.2.2.2.2.2.2.2.2.2.2.2.2.2.1
theorem dk_s140 {d : Nat} {R : dk_Rt} (h : dk_spec d R) : ∀ {F : wq_F} (_ : xm_T F) {a0 : Nat} (_ : a0 < 4294967296) {x : Nat × wq_F} (_ : R 140 [a0] F = some x), mq d 140 [36893488147419103288, a0] xm_sh F (wkN xm_T xm_sh x) := h.2.2.2.2.2.2.2.2.2.2.2.2.2.2.2.2.1
theorem dk_s141 {d : Nat} {R : dk_Rt} (h : dk_spec d R) : ∀ {F : wq_F} (_ : xm_T F) {a0 : Nat} (_ : a0 < 4294967296) {a1 : Nat} (_ : a1 < 4294967296) {x : Nat × wq_F} (_ : R 141 [a0, a1] F = some x), mq d 141 [36893488147419103288, a0, a1] xm_sh F (wkN xm_T xm_sh x) := h.2.2.2.2.2.2.2.2.2.2.2.2.2.2.2.2.2.1
theorem dk_s144 {d : Nat} {R : dk_Rt} (h : dk_spec d R) : ∀ {F : wq_F} (_ : xm_T F) {a0 : Nat} (_ : a0 < 4294967296) {x : Nat × wq_F} (_ : R 144 [a0] F = some x), mq d 144 [36893488147419103288, a0] xm_sh F (wkI xm_T xm_sh x) := h.2.2.2.2.2.2.2.2.2.2.2.2.2.2.2.2.2.2.1
theorem dk_s148 {d : Nat} {R : dk_Rt} (h : dk_spec d R) : ∀ {F : wq_F} (_ : xm_T F) {a0 : Nat} (_ : a0 < 4294967296) {a1 : Nat} (_ : a1 < 4294967296) {x : Nat × wq_F} (_ : R 148 [a0, a1] F = some x), mq d 148 [36893488147419103288, a0, a1] xm_sh F (wkZ xm_T xm_sh x) := h.2.2.2.2.2.2.2.2.2.2.2.2.2.2.2.2.2.2.2.1
theorem dk_s149 {d : Nat} {R : dk_Rt} (h : dk_spec d R) : ∀ {F : wq_F} (_ : xm_T F) {a0 : Nat} (_ : a0 < 4294967296) {x : Nat × wq_F} (_ : R 149 [a0] F = some x), mq d 149 [36893488147419103288, a0] xm_sh F (wkN xm_T xm_sh x) := h.2.2.2.2.2.2.2.2.2.2.2.2.2.2.2.2.2.2.2.2.1
theorem dk_s150 {d : Nat} {R : dk_Rt} (h : dk_spec d R) : ∀ {F : wq_F} (_ : xm_T F) {a0 : Nat} (_ : a0 < 4294967296) {x : Nat × wq_F} (_ : R 150 [a0] F = some x), mq d 150 [36893488147419103288, a0] xm_sh F (wkZ xm_T xm_sh x) := h.2.2.2.2.2.2.2.2.2.2.2.2.2.2.2.2.2.2.2.2.2.1
theorem dk_s151 {d : Nat} {R : dk_Rt} (h : dk_spec d R) : ∀ {F : wq_F} (_ : xm_T F) {a0 : Nat} (_ : a0 < 4294967296) {x : Nat × wq_F} (_ : R 151 [a0] F = some x), mq d 151 [36893488147419103288, a0] xm_sh F (wkN xm_T xm_sh x) := h.2.2.2.2.2.2.2.2.2.2.2.2.2.2.2.2.2.2.2.2.2.2.1
theorem dk_s153 {d : Nat} {R : dk_Rt} (h : dk_spec d R) : ∀ {F : wq_F} (_ : xm_T F) {a0 : Nat} (_ : a0 < 4294967296) {x : Nat × wq_F} (_ : R 153 [a0] F = some x), mq d 153 [36893488147419103288, a0] xm_sh F (wkN xm_T xm_sh x) := h.2.2.2.2.2.2.2.2.2.2.2.2.2.2.2.2.2.2.2.2.2.2.2.1
theorem dk_s154 {d : Nat} {R : dk_Rt} (h : dk_spec d R) : ∀ {F : wq_F} (_ : xm_T F) {a0 : Nat} (_ : a0 < 4294967296) {a1 : Nat} (_ : a1 < 4294967296) {a2 : Nat} (_ : a2 < 4294967296) {x : Nat × wq_F} (_ : R 154 [a0, a1, a2] F = some x), mq d 154 [36893488147419103288, a0, a1, a2] xm_sh F (wkN xm_T xm_sh x) := h.2.2.2.2.2.2.2.2.2.2.2.2.2.2.2.2.2.2.2.2.2.2.2.2.1
theorem dk_s155 {d : Nat} {R : dk_Rt} (h : dk_spec d R) : ∀ {F : wq_F} (_ : xm_T F) {a0 : Nat} (_ : a0 < 4294967296) {a1 : Nat} (_ : a1 < 2) {x : Nat × wq_F} (_ : R 155 [a0, a1] F = some x), mq d 155 [36893488147419103288, a0, a1] xm_sh F (wkN xm_T xm_sh x) := h.2.2.2.2.2.2.2.2.2.2.2.2.2.2.2.2.2.2.2.2.2.2.2.2.2
def dk_80_2b (R : dk_Rt) (n : Nat) (r2 : wq_F → Nat → Nat → Option (Nat × wq_F)) (F : wq_F) (v1 : Nat) (v2 : Nat) : Option (Nat × wq_F) :=
  if ev_s 1500 < ev_s v2 then
    if (F 57 4) = 26 then
      (R 117 [v1] F).bind fun y3 =>
      some (0, y3.2)
    else
      some (0, F)
  else
    (dk_79 F).bind fun y7 =>
    if y7.1 = 0 then
      if (y7.2 57 4) = 26 then
        (R 117 [v1] y7.2).bind fun y13 =>
        some (0, y13.2)
      else
        some (0, y7.2)
    else
      (R 116 [v1] y7.2).bind fun y17 =>
      od_let ((v2 + 1) % 4294967296) fun y21 =>
      r2 y17.2 v1 y21
theorem dk_80_2bT {d n : Nat} {R : dk_Rt} (hR : dk_spec (d + 12) R) {r2 : wq_F → Nat → Nat → Option (Nat × wq_F)} (hr2 : ∀ ⦃F : wq_F⦄ (hT : xm_T F) ⦃v1 : Nat⦄ (hv1 : v1 < 4294967296) ⦃v2 : Nat⦄ (hv2 : v2 < 4294967296) ⦃x : Nat × wq_F⦄ (h : r2 F v1 v2 = some x), wq (wq_cf (d + 12)) (ev_un al_mX4_block.2.2.2.2) none 2 [36893488147419103288, v1, v2] [] xm_sh F 0 0 (wkN xm_T xm_sh x)) : ∀ ⦃F : wq_F⦄ (hT : xm_T F) ⦃v1 : Nat⦄ (hv1 : v1 < 4294967296) ⦃v2 : Nat⦄ (hv2 : v2 < 4294967296) ⦃x : Nat × wq_F⦄ (h : dk_80_2b R n r2 F v1 v2 = some x), wq (wq_cf (d + 12)) (ev_un al_mX4_block.2.2.2.2) none 2 [36893488147419103288, v1, v2] [] xm_sh F 0 0 (wkN xm_T xm_sh x) := by
  intro F hT v1 hv1 v2 hv2 x h
  unfold dk_80_2b at h
  refine wq_iload_n rfl rfl hv2 ?_
  refine wq_sipush rfl rfl ?_
  refine wq_ic_gt rfl rfl hv2 (by decide) (fun h1 => ?_) (fun h1 => ?_)
  · replace h := od_pos h h1
    refine wq_aload_n rfl rfl rfl ?_
    refine xm_getR (v := 36893488147419103289) (q := 56) rfl rfl (by decide) (by decide) (hT.r (k := 56) 0 56 rfl (by decide) rfl) ?_
    refine xm_getI (q := 57) rfl rfl (by decide) (by decide) ?_
    refine wq_bipush rfl rfl ?_
    refine wq_ic_ne rfl rfl (hT.i (k := 57) 4 rfl (by decide) rfl) (by decide) (fun h2 => ?_) (fun h2 => ?_)
    · replace h := od_neg h h2
      exact wq_ret rfl (wkON h hT)
    · replace h := od_pos h h2
      refine wq_aload_n rfl rfl rfl ?_
      refine wq_iload_n rfl rfl hv1 ?_
      obtain ⟨y3, e4, h⟩ := od_bindE h
      refine wd_virtN (q := 56) (y := y3) (as := [36893488147419103288, v1]) rfl rfl rfl (by decide) (Nat.le_of_ble_eq_true rfl) (Nat.le_of_ble_eq_true rfl) rfl (Nat.le_of_ble_eq_true rfl) rfl (dk_s117 hR hT hv1 e4) (fun T6 => ?_)
      exact wq_ret rfl (wkON h T6)
  · replace h := od_neg h (Nat.not_lt.mpr h1)
    refine wq_aload_n rfl rfl rfl ?_
    obtain ⟨y7, e8, h⟩ := od_bindE h
    refine wd_virtZ (q := 56) (y := y7) (as := [36893488147419103288]) rfl rfl rfl (by decide) (Nat.le_of_ble_eq_true rfl) (Nat.le_of_ble_eq_true rfl) rfl (Nat.le_of_ble_eq_true rfl) rfl (dkT_79 hT e8) (fun p9 T10 => ?_)
    refine wq_if_eq rfl rfl (wm_zlt p9) (fun h11 => ?_) (fun h11 => ?_)
    · replace h := od_pos h h11
      refine wq_aload_n rfl rfl rfl ?_
      refine xm_getR (v := 36893488147419103289) (q := 56) rfl rfl (by decide) (by decide) (T10.r (k := 56) 0 56 rfl (by decide) rfl) ?_
      refine xm_getI (q := 57) rfl rfl (by decide) (by decide) ?_
      refine wq_bipush rfl rfl ?_
      refine wq_ic_ne rfl rfl (T10.i (k := 57) 4 rfl (by decide) rfl) (by decide) (fun h12 => ?_) (fun h12 => ?_)
      · replace h := od_neg h h12
        exact wq_ret rfl (wkON h T10)
      · replace h := od_pos h h12
        refine wq_aload_n rfl rfl rfl ?_
        refine wq_iload_n rfl rfl hv1 ?_
        obtain ⟨y13, e14, h⟩ := od_bindE h
        refine wd_virtN (q := 56) (y := y13) (as := [36893488147419103288, v1]) rfl rfl rfl (by decide) (Nat.le_of_ble_eq_true rfl) (Nat.le_of_ble_eq_true rfl) rfl (Nat.le_of_ble_eq_true rfl) rfl (dk_s117 hR T10 hv1 e14) (fun T16 => ?_)
        exact wq_ret rfl (wkON h T16)
    · replace h := od_neg h h11
      refine wq_aload_n rfl rfl rfl ?_
      refine wq_iload_n rfl rfl hv1 ?_
      obtain ⟨y17, e18, h⟩ := od_bindE h
      refine wd_virtN (q := 56) (y := y17) (as := [36893488147419103288, v1]) rfl rfl rfl (by decide) (Nat.le_of_ble_eq_true rfl) (Nat.le_of_ble_eq_true rfl) rfl (Nat.le_of_ble_eq_true rfl) rfl (dk_s116 hR T10 hv1 e18) (fun T20 => ?_)
      obtain ⟨y21, e22, h⟩ := od_letE h
      have p23 : y21 < 4294967296 := wd_lt e22 (Nat.mod_lt _ (by decide))
      refine wq_iincZ rfl rfl hv2 (Or.inr ⟨_, rfl, (wq_notL hv1)⟩) rfl (z := y21) e22.symm (L' := [36893488147419103288, v1, y21]) rfl ?_
      refine wq_goto rfl rfl ?_
      exact hr2 T20 hv1 p23 h
def dk_80_2 (R : dk_Rt) (n : Nat) : Nat → wq_F → Nat → Nat → Option (Nat × wq_F)
  | 0 => fun _ _ _ => none
  | g + 1 => dk_80_2b R n (dk_80_2 R n g)
theorem dk_80_2T {d n : Nat} {R : dk_Rt} (hR : dk_spec (d + 12) R) : ∀ g : Nat, ∀ ⦃F : wq_F⦄ (hT : xm_T F) ⦃v1 : Nat⦄ (hv1 : v1 < 4294967296) ⦃v2 : Nat⦄ (hv2 : v2 < 4294967296) ⦃x : Nat × wq_F⦄ (h : dk_80_2 R n g F v1 v2 = some x), wq (wq_cf (d + 12)) (ev_un al_mX4_block.2.2.2.2) none 2 [36893488147419103288, v1, v2] [] xm_sh F 0 0 (wkN xm_T xm_sh x)
  | 0 => by
    intro F hT v1 hv1 v2 hv2 x h
    cases h
  | g + 1 => dk_80_2bT hR (dk_80_2T hR g)
/-- X4_block -/
def dk_80 (R : dk_Rt) (n : Nat) (F : wq_F) (a0 : Nat) : Option (Nat × wq_F) :=
  dk_80_2 R n n F a0 0
theorem dkT_80 {d n : Nat} {R : dk_Rt} (hR : dk_spec (d + 12) R) {F : wq_F} (hT : xm_T F) {a0 : Nat} (ha0 : a0 < 4294967296) {x : Nat × wq_F} (h : dk_80 R n F a0 = some x) : mq (d + 12 + 1) 80 [36893488147419103288, a0] xm_sh F (wkN xm_T xm_sh x) := by
  have e : ev_ent [36893488147419103288, a0] = [36893488147419103288, a0] := by
    show 36893488147419103288 :: ev_ent [a0] = _
    rw [wm_entI ha0]
    rfl
  refine mq_of (maxL := 3) (rt := none) (code := (ev_un al_mX4_block.2.2.2.2)) (L := [36893488147419103288, a0, 73786976294838206464]) rfl (by rw [e]; exact Nat.le_of_ble_eq_true rfl) (by rw [e]; rfl) ?_
  unfold dk_80 at h
  refine wq_iconst rfl rfl ?_
  refine wq_istore_n rfl (wm_zlt (by decide)) (Nat.le_of_ble_eq_true rfl) (Or.inr ⟨_, rfl, (wq_notL ha0)⟩) (L' := [36893488147419103288, a0, 0]) rfl ?_
  exact dk_80_2T hR n hT ha0 (wm_zlt (by decide)) h
/-- X4_closedBlock -/
def dk_115 (R : dk_Rt) (n : Nat) (F : wq_F) (a0 : Nat) : Option (Nat × wq_F) :=
  (dk_84 F).bind fun y1 =>
  (R 80 [a0] y1.2).bind fun y5 =>
  (dk_168 y5.2 (F 59 3)).bind fun y9 =>
  (dk_84 y9.2).bind fun y13 =>
  if y13.1 = y1.1 then
    some (0, y13.2)
  else
    (dk_113 y13.2 y1.1).bind fun y18 =>
    some (0, y18.2)
theorem dkT_115 {d n : Nat} {R : dk_Rt} (hR : dk_spec (d + 12) R) {F : wq_F} (hT : xm_T F) {a0 : Nat} (ha0 : a0 < 4294967296) {x : Nat × wq_F} (h : dk_115 R n F a0 = some x) : mq (d + 12 + 1) 115 [36893488147419103288, a0] xm_sh F (wkN xm_T xm_sh x) := by
  have e : ev_ent [36893488147419103288, a0] = [36893488147419103288, a0] := by
    show 36893488147419103288 :: ev_ent [a0] = _
    rw [wm_entI ha0]
    rfl
  refine mq_of (maxL := 4) (rt := none) (code := (ev_un al_mX4_closedBlock.2.2.2.2)) (L := [36893488147419103288, a0, 73786976294838206464, 73786976294838206464]) rfl (by rw [e]; exact Nat.le_of_ble_eq_true rfl) (by rw [e]; rfl) ?_
  unfold dk_115 at h
  refine wq_aload_n rfl rfl rfl ?_
  refine xm_getR (v := 36893488147419103291) (q := 56) rfl rfl (by decide) (by decide) (hT.r (k := 56) 3 58 rfl (by decide) rfl) ?_
  refine xm_getI (q := 59) rfl rfl (by decide) (by decide) ?_
  refine wq_istore_n rfl (hT.i (k := 59) 3 rfl (by decide) rfl) (Nat.le_of_ble_eq_true rfl) (Or.inr ⟨_, rfl, (wq_notL ha0)⟩) (L' := [36893488147419103288, a0, F 59 3, 73786976294838206464]) rfl ?_
  refine wq_aload_n rfl rfl rfl ?_
  refine xm_getR (v := 36893488147419103291) (q := 56) rfl rfl (by decide) (by decide) (hT.r (k := 56) 3 58 rfl (by decide) rfl) ?_
  obtain ⟨y1, e2, h⟩ := od_bindE h
  refine wd_virtI (q := 59) (y := y1) (as := [36893488147419103291]) rfl rfl rfl (by decide) (Nat.le_of_ble_eq_true rfl) (Nat.le_of_ble_eq_true rfl) rfl (Nat.le_of_ble_eq_true rfl) rfl (dkT_84 hT e2) (fun p3 T4 => ?_)
  refine wq_istore_n rfl p3 (Nat.le_of_ble_eq_true rfl) (Or.inr ⟨_, rfl, (wq_notL (hT.i (k := 59) 3 rfl (by decide) rfl))⟩) (L' := [36893488147419103288, a0, F 59 3, y1.1]) rfl ?_
  refine wq_aload_n rfl rfl rfl ?_
  refine wq_iload_n rfl rfl ha0 ?_
  obtain ⟨y5, e6, h⟩ := od_bindE h
  refine wd_virtN (q := 56) (y := y5) (as := [36893488147419103288, a0]) rfl rfl rfl (by decide) (Nat.le_of_ble_eq_true rfl) (Nat.le_of_ble_eq_true rfl) rfl (Nat.le_of_ble_eq_true rfl) rfl (dk_s80 hR T4 ha0 e6) (fun T8 => ?_)
  refine wq_aload_n rfl rfl rfl ?_
  refine xm_getR (v := 36893488147419103291) (q := 56) rfl rfl (by decide) (by decide) (T8.r (k := 56) 3 58 rfl (by decide) rfl) ?_
  refine wq_iload_n rfl rfl (hT.i (k := 59) 3 rfl (by decide) rfl) ?_
  obtain ⟨y9, e10, h⟩ := od_bindE h
  refine wd_virtN (q := 59) (y := y9) (as := [36893488147419103291, F 59 3]) rfl rfl rfl (by decide) (Nat.le_of_ble_eq_true rfl) (Nat.le_of_ble_eq_true rfl) rfl (Nat.le_of_ble_eq_true rfl) rfl (dkT_168 T8 (hT.i (k := 59) 3 rfl (by decide) rfl) e10) (fun T12 => ?_)
  refine wq_aload_n rfl rfl rfl ?_
  refine xm_getR (v := 36893488147419103291) (q := 56) rfl rfl (by decide) (by decide) (T12.r (k := 56) 3 58 rfl (by decide) rfl) ?_
  obtain ⟨y13, e14, h⟩ := od_bindE h
  refine wd_virtI (q := 59) (y := y13) (as := [36893488147419103291]) rfl rfl rfl (by decide) (Nat.le_of_ble_eq_true rfl) (Nat.le_of_ble_eq_true rfl) rfl (Nat.le_of_ble_eq_true rfl) rfl (dkT_84 T12 e14) (fun p15 T16 => ?_)
  refine wq_iload_n rfl rfl p3 ?_
  refine wq_ic_eq rfl rfl p15 p3 (fun h17 => ?_) (fun h17 => ?_)
  · replace h := od_pos h h17
    exact wq_ret rfl (wkON h T16)
  · replace h := od_neg h h17
    refine wq_aload_n rfl rfl rfl ?_
    refine wq_iload_n rfl rfl p3 ?_
    obtain ⟨y18, e19, h⟩ := od_bindE h
    refine wd_virtN (q := 56) (y := y18) (as := [36893488147419103288, y1.1]) rfl rfl rfl (by decide) (Nat.le_of_ble_eq_true rfl) (Nat.le_of_ble_eq_true rfl) rfl (Nat.le_of_ble_eq_true rfl) rfl (dkT_113 T16 p3 e19) (fun T21 => ?_)
    exact wq_ret rfl (wkON h T21)
/-- X4_statement -/
def dk_116 (R : dk_Rt) (n : Nat) (F : wq_F) (a0 : Nat) : Option (Nat × wq_F) :=
  if ev_s 20 < ev_s a0 then
    (dk_109 F 3).bind fun y147 =>
    some (0, y147.2)
  else
    (dk_111 n F 57).bind fun y2 =>
    if y2.1 = 0 then
      (dk_78 y2.2 0 0 0 (y2.2 57 6)).bind fun y7 =>
      od_let (y7.2 57 4) fun y11 =>
      if y11 = 11 then
        (dk_118 n y7.2).bind fun y16 =>
        some (0, y16.2)
      else if y11 = 12 then
        (dk_77 n y7.2).bind fun y22 =>
        (R 115 [(a0 + 1) % 4294967296] y22.2).bind fun y26 =>
        (dk_110 n y26.2 15).bind fun y30 =>
        some (0, y30.2)
      else if y11 = 13 then
        (R 140 [a0] y7.2).bind fun y36 =>
        some (0, y36.2)
      else if y11 = 14 then
        (R 140 [a0] y7.2).bind fun y42 =>
        some (0, y42.2)
      else if y11 = 15 then
        (R 140 [a0] y7.2).bind fun y48 =>
        some (0, y48.2)
      else if y11 = 16 then
        (R 140 [a0] y7.2).bind fun y54 =>
        some (0, y54.2)
      else if y11 = 17 then
        (R 126 [a0] y7.2).bind fun y60 =>
        some (0, y60.2)
      else if y11 = 18 then
        (R 131 [a0] y7.2).bind fun y66 =>
        some (0, y66.2)
      else if y11 = 19 then
        (R 122 [a0] y7.2).bind fun y72 =>
        some (0, y72.2)
      else if y11 = 20 then
        (R 140 [a0] y7.2).bind fun y78 =>
        some (0, y78.2)
      else if y11 = 21 then
        (R 130 [a0] y7.2).bind fun y84 =>
        some (0, y84.2)
      else if y11 = 22 then
        (R 140 [a0] y7.2).bind fun y90 =>
        some (0, y90.2)
      else if y11 = 23 then
        (R 140 [a0] y7.2).bind fun y96 =>
        some (0, y96.2)
      else if y11 = 24 then
        (R 140 [a0] y7.2).bind fun y102 =>
        some (0, y102.2)
      else if y11 = 25 then
        (R 121 [a0] y7.2).bind fun y108 =>
        some (0, y108.2)
      else if y11 = 26 then
        (R 140 [a0] y7.2).bind fun y114 =>
        some (0, y114.2)
      else if y11 = 27 then
        (R 140 [a0] y7.2).bind fun y120 =>
        some (0, y120.2)
      else if y11 = 28 then
        (R 140 [a0] y7.2).bind fun y126 =>
        some (0, y126.2)
      else if y11 = 29 then
        (R 140 [a0] y7.2).bind fun y132 =>
        some (0, y132.2)
      else if y11 = 30 then
        (R 119 [a0] y7.2).bind fun y138 =>
        some (0, y138.2)
      else 
      (R 140 [a0] y7.2).bind fun y143 =>
      some (0, y143.2)
    else
      some (0, y2.2)
theorem dkT_116 {d n : Nat} {R : dk_Rt} (hR : dk_spec (d + 12) R) {F : wq_F} (hT : xm_T F) {a0 : Nat} (ha0 : a0 < 4294967296) {x : Nat × wq_F} (h : dk_116 R n F a0 = some x) : mq (d + 12 + 1) 116 [36893488147419103288, a0] xm_sh F (wkN xm_T xm_sh x) := by
  have e : ev_ent [36893488147419103288, a0] = [36893488147419103288, a0] := by
    show 36893488147419103288 :: ev_ent [a0] = _
    rw [wm_entI ha0]
    rfl
  refine mq_of (maxL := 2) (rt := none) (code := (ev_un al_mX4_statement.2.2.2.2)) (L := [36893488147419103288, a0]) rfl (by rw [e]; exact Nat.le_of_ble_eq_true rfl) (by rw [e]; rfl) ?_
  unfold dk_116 at h
  refine wq_iload_n rfl rfl ha0 ?_
  refine wq_bipush rfl rfl ?_
  refine wq_ic_le rfl rfl ha0 (by decide) (fun h1 => ?_) (fun h1 => ?_)
  · replace h := od_neg h (Nat.not_lt.mpr h1)
    refine wq_aload_n rfl rfl rfl ?_
    refine wq_bipush rfl rfl ?_
    obtain ⟨y2, e3, h⟩ := od_bindE h
    refine wd_virtZ (q := 56) (y := y2) (as := [36893488147419103288, 57]) rfl rfl rfl (by decide) (Nat.le_of_ble_eq_true rfl) (Nat.le_of_ble_eq_true rfl) rfl (Nat.le_of_ble_eq_true rfl) rfl (dkT_111 hT (by decide) e3) (fun p4 T5 => ?_)
    refine wq_if_eq rfl rfl (wm_zlt p4) (fun h6 => ?_) (fun h6 => ?_)
    · replace h := od_pos h h6
      refine wq_aload_n rfl rfl rfl ?_
      refine wq_iconst rfl rfl ?_
      refine wq_iconst rfl rfl ?_
      refine wq_iconst rfl rfl ?_
      refine wq_aload_n rfl rfl rfl ?_
      refine xm_getR (v := 36893488147419103289) (q := 56) rfl rfl (by decide) (by decide) (T5.r (k := 56) 0 56 rfl (by decide) rfl) ?_
      refine xm_getI (q := 57) rfl rfl (by decide) (by decide) ?_
      obtain ⟨y7, e8, h⟩ := od_bindE h
      refine wd_virtI (q := 56) (y := y7) (as := [36893488147419103288, 0, 0, 0, y2.2 57 6]) rfl rfl rfl (by decide) (Nat.le_of_ble_eq_true rfl) (Nat.le_of_ble_eq_true rfl) rfl (Nat.le_of_ble_eq_true rfl) rfl (dkT_78 T5 (wm_zlt (by decide)) (wm_zlt (by decide)) (wm_zlt (by decide)) (T5.i (k := 57) 6 rfl (by decide) rfl) e8) (fun p9 T10 => ?_)
      refine wq_pop rfl (wq_notL p9) ?_
      refine wq_aload_n rfl rfl rfl ?_
      refine xm_getR (v := 36893488147419103289) (q := 56) rfl rfl (by decide) (by decide) (T10.r (k := 56) 0 56 rfl (by decide) rfl) ?_
      refine xm_getI (q := 57) rfl rfl (by decide) (by decide) ?_
      obtain ⟨y11, e12, h⟩ := od_letE h
      refine wq_top e12.symm ?_
      have p13 : y11 < 4294967296 := wd_lt e12 (T10.i (k := 57) 4 rfl (by decide) rfl)
      have i14 : y11 < 11 ∨ 11 ≤ y11 := Nat.lt_or_ge _ _
      by_cases h15 : y11 = 11
      case pos =>
        replace h := od_pos h h15
        refine wq_top h15 ?_
        refine wq_tsw rfl (by decide) (tgt := 208) rfl ?_
        refine wq_aload_n rfl rfl rfl ?_
        obtain ⟨y16, e17, h⟩ := od_bindE h
        refine wd_virtN (q := 56) (y := y16) (as := [36893488147419103288]) rfl rfl rfl (by decide) (Nat.le_of_ble_eq_true rfl) (Nat.le_of_ble_eq_true rfl) rfl (Nat.le_of_ble_eq_true rfl) rfl (dkT_118 T10 e17) (fun T19 => ?_)
        refine wq_goto rfl rfl ?_
        exact wq_ret rfl (wkON h T19)
      replace h := od_neg h h15
      have i20 : y11 < 11 ∨ 12 ≤ y11 := by omega
      clear i14
      by_cases h21 : y11 = 12
      case pos =>
        replace h := od_pos h h21
        refine wq_top h21 ?_
        refine wq_tsw rfl (by decide) (tgt := 140) rfl ?_
        refine wq_aload_n rfl rfl rfl ?_
        obtain ⟨y22, e23, h⟩ := od_bindE h
        refine wd_virtN (q := 56) (y := y22) (as := [36893488147419103288]) rfl rfl rfl (by decide) (Nat.le_of_ble_eq_true rfl) (Nat.le_of_ble_eq_true rfl) rfl (Nat.le_of_ble_eq_true rfl) rfl (dkT_77 T10 e23) (fun T25 => ?_)
        refine wq_aload_n rfl rfl rfl ?_
        refine wq_iload_n rfl rfl ha0 ?_
        refine wq_iconst rfl rfl ?_
        refine wq_iaddZ rfl ha0 (wm_zlt (by decide)) (z := (a0 + 1) % 4294967296) rfl ?_
        obtain ⟨y26, e27, h⟩ := od_bindE h
        refine wd_virtN (q := 56) (y := y26) (as := [36893488147419103288, (a0 + 1) % 4294967296]) rfl rfl rfl (by decide) (Nat.le_of_ble_eq_true rfl) (Nat.le_of_ble_eq_true rfl) rfl (Nat.le_of_ble_eq_true rfl) rfl (dk_s115 hR T25 (Nat.mod_lt _ (by decide)) e27) (fun T29 => ?_)
        refine wq_aload_n rfl rfl rfl ?_
        refine wq_bipush rfl rfl ?_
        obtain ⟨y30, e31, h⟩ := od_bindE h
        refine wd_virtN (q := 56) (y := y30) (as := [36893488147419103288, 15]) rfl rfl rfl (by decide) (Nat.le_of_ble_eq_true rfl) (Nat.le_of_ble_eq_true rfl) rfl (Nat.le_of_ble_eq_true rfl) rfl (dkT_110 T29 (by decide) e31) (fun T33 => ?_)
        refine wq_goto rfl rfl ?_
        exact wq_ret rfl (wkON h T33)
      replace h := od_neg h h21
      have i34 : y11 < 11 ∨ 13 ≤ y11 := by omega
      clear i20
      by_cases h35 : y11 = 13
      case pos =>
        replace h := od_pos h h35
        refine wq_top h35 ?_
        refine wq_tsw rfl (by decide) (tgt := 215) rfl ?_
        refine wq_aload_n rfl rfl rfl ?_
        refine wq_iload_n rfl rfl ha0 ?_
        obtain ⟨y36, e37, h⟩ := od_bindE h
        refine wd_virtN (q := 56) (y := y36) (as := [36893488147419103288, a0]) rfl rfl rfl (by decide) (Nat.le_of_ble_eq_true rfl) (Nat.le_of_ble_eq_true rfl) rfl (Nat.le_of_ble_eq_true rfl) rfl (dk_s140 hR T10 ha0 e37) (fun T39 => ?_)
        exact wq_ret rfl (wkON h T39)
      replace h := od_neg h h35
      have i40 : y11 < 11 ∨ 14 ≤ y11 := by omega
      clear i34
      by_cases h41 : y11 = 14
      case pos =>
        replace h := od_pos h h41
        refine wq_top h41 ?_
        refine wq_tsw rfl (by decide) (tgt := 215) rfl ?_
        refine wq_aload_n rfl rfl rfl ?_
        refine wq_iload_n rfl rfl ha0 ?_
        obtain ⟨y42, e43, h⟩ := od_bindE h
        refine wd_virtN (q := 56) (y := y42) (as := [36893488147419103288, a0]) rfl rfl rfl (by decide) (Nat.le_of_ble_eq_true rfl) (Nat.le_of_ble_eq_true rfl) rfl (Nat.le_of_ble_eq_true rfl) rfl (dk_s140 hR T10 ha0 e43) (fun T45 => ?_)
        exact wq_ret rfl (wkON h T45)
      replace h := od_neg h h41
      have i46 : y11 < 11 ∨ 15 ≤ y11 := by omega
      clear i40
      by_cases h47 : y11 = 15
      case pos =>
        replace h := od_pos h h47
        refine wq_top h47 ?_
        refine wq_tsw rfl (by decide) (tgt := 215) rfl ?_
        refine wq_aload_n rfl rfl rfl ?_
        refine wq_iload_n rfl rfl ha0 ?_
        obtain ⟨y48, e49, h⟩ := od_bindE h
        refine wd_virtN (q := 56) (y := y48) (as := [36893488147419103288, a0]) rfl rfl rfl (by decide) (Nat.le_of_ble_eq_true rfl) (Nat.le_of_ble_eq_true rfl) rfl (Nat.le_of_ble_eq_true rfl) rfl (dk_s140 hR T10 ha0 e49) (fun T51 => ?_)
        exact wq_ret rfl (wkON h T51)
      replace h := od_neg h h47
      have i52 : y11 < 11 ∨ 16 ≤ y11 := by omega
      clear i46
      by_cases h53 : y11 = 16
      case pos =>
        replace h := od_pos h h53
        refine wq_top h53 ?_
        refine wq_tsw rfl (by decide) (tgt := 215) rfl ?_
        refine wq_aload_n rfl rfl rfl ?_
        refine wq_iload_n rfl rfl ha0 ?_
        obtain ⟨y54, e55, h⟩ := od_bindE h
        refine wd_virtN (q := 56) (y := y54) (as := [36893488147419103288, a0]) rfl rfl rfl (by decide) (Nat.le_of_ble_eq_true rfl) (Nat.le_of_ble_eq_true rfl) rfl (Nat.le_of_ble_eq_true rfl) rfl (dk_s140 hR T10 ha0 e55) (fun T57 => ?_)
        exact wq_ret rfl (wkON h T57)
      replace h := od_neg h h53
      have i58 : y11 < 11 ∨ 17 ≤ y11 := by omega
      clear i52
      by_cases h59 : y11 = 17
      case pos =>
        replace h := od_pos h h59
        refine wq_top h59 ?_
        refine wq_tsw rfl (by decide) (tgt := 184) rfl ?_
        refine wq_aload_n rfl rfl rfl ?_
        refine wq_iload_n rfl rfl ha0 ?_
        obtain ⟨y60, e61, h⟩ := od_bindE h
        refine wd_virtN (q := 56) (y := y60) (as := [36893488147419103288, a0]) rfl rfl rfl (by decide) (Nat.le_of_ble_eq_true rfl) (Nat.le_of_ble_eq_true rfl) rfl (Nat.le_of_ble_eq_true rfl) rfl (dk_s126 hR T10 ha0 e61) (fun T63 => ?_)
        refine wq_goto rfl rfl ?_
        exact wq_ret rfl (wkON h T63)
      replace h := od_neg h h59
      have i64 : y11 < 11 ∨ 18 ≤ y11 := by omega
      clear i58
      by_cases h65 : y11 = 18
      case pos =>
        replace h := od_pos h h65
        refine wq_top h65 ?_
        refine wq_tsw rfl (by decide) (tgt := 192) rfl ?_
        refine wq_aload_n rfl rfl rfl ?_
        refine wq_iload_n rfl rfl ha0 ?_
        obtain ⟨y66, e67, h⟩ := od_bindE h
        refine wd_virtN (q := 56) (y := y66) (as := [36893488147419103288, a0]) rfl rfl rfl (by decide) (Nat.le_of_ble_eq_true rfl) (Nat.le_of_ble_eq_true rfl) rfl (Nat.le_of_ble_eq_true rfl) rfl (dk_s131 hR T10 ha0 e67) (fun T69 => ?_)
        refine wq_goto rfl rfl ?_
        exact wq_ret rfl (wkON h T69)
      replace h := od_neg h h65
      have i70 : y11 < 11 ∨ 19 ≤ y11 := by omega
      clear i64
      by_cases h71 : y11 = 19
      case pos =>
        replace h := od_pos h h71
        refine wq_top h71 ?_
        refine wq_tsw rfl (by decide) (tgt := 176) rfl ?_
        refine wq_aload_n rfl rfl rfl ?_
        refine wq_iload_n rfl rfl ha0 ?_
        obtain ⟨y72, e73, h⟩ := od_bindE h
        refine wd_virtN (q := 56) (y := y72) (as := [36893488147419103288, a0]) rfl rfl rfl (by decide) (Nat.le_of_ble_eq_true rfl) (Nat.le_of_ble_eq_true rfl) rfl (Nat.le_of_ble_eq_true rfl) rfl (dk_s122 hR T10 ha0 e73) (fun T75 => ?_)
        refine wq_goto rfl rfl ?_
        exact wq_ret rfl (wkON h T75)
      replace h := od_neg h h71
      have i76 : y11 < 11 ∨ 20 ≤ y11 := by omega
      clear i70
      by_cases h77 : y11 = 20
      case pos =>
        replace h := od_pos h h77
        refine wq_top h77 ?_
        refine wq_tsw rfl (by decide) (tgt := 215) rfl ?_
        refine wq_aload_n rfl rfl rfl ?_
        refine wq_iload_n rfl rfl ha0 ?_
        obtain ⟨y78, e79, h⟩ := od_bindE h
        refine wd_virtN (q := 56) (y := y78) (as := [36893488147419103288, a0]) rfl rfl rfl (by decide) (Nat.le_of_ble_eq_true rfl) (Nat.le_of_ble_eq_true rfl) rfl (Nat.le_of_ble_eq_true rfl) rfl (dk_s140 hR T10 ha0 e79) (fun T81 => ?_)
        exact wq_ret rfl (wkON h T81)
      replace h := od_neg h h77
      have i82 : y11 < 11 ∨ 21 ≤ y11 := by omega
      clear i76
      by_cases h83 : y11 = 21
      case pos =>
        replace h := od_pos h h83
        refine wq_top h83 ?_
        refine wq_tsw rfl (by decide) (tgt := 200) rfl ?_
        refine wq_aload_n rfl rfl rfl ?_
        refine wq_iload_n rfl rfl ha0 ?_
        obtain ⟨y84, e85, h⟩ := od_bindE h
        refine wd_virtN (q := 56) (y := y84) (as := [36893488147419103288, a0]) rfl rfl rfl (by decide) (Nat.le_of_ble_eq_true rfl) (Nat.le_of_ble_eq_true rfl) rfl (Nat.le_of_ble_eq_true rfl) rfl (dk_s130 hR T10 ha0 e85) (fun T87 => ?_)
        refine wq_goto rfl rfl ?_
        exact wq_ret rfl (wkON h T87)
      replace h := od_neg h h83
      have i88 : y11 < 11 ∨ 22 ≤ y11 := by omega
      clear i82
      by_cases h89 : y11 = 22
      case pos =>
        replace h := od_pos h h89
        refine wq_top h89 ?_
        refine wq_tsw rfl (by decide) (tgt := 215) rfl ?_
        refine wq_aload_n rfl rfl rfl ?_
        refine wq_iload_n rfl rfl ha0 ?_
        obtain ⟨y90, e91, h⟩ := od_bindE h
        refine wd_virtN (q := 56) (y := y90) (as := [36893488147419103288, a0]) rfl rfl rfl (by decide) (Nat.le_of_ble_eq_true rfl) (Nat.le_of_ble_eq_true rfl) rfl (Nat.le_of_ble_eq_true rfl) rfl (dk_s140 hR T10 ha0 e91) (fun T93 => ?_)
        exact wq_ret rfl (wkON h T93)
      replace h := od_neg h h89
      have i94 : y11 < 11 ∨ 23 ≤ y11 := by omega
      clear i88
      by_cases h95 : y11 = 23
      case pos =>
        replace h := od_pos h h95
        refine wq_top h95 ?_
        refine wq_tsw rfl (by decide) (tgt := 215) rfl ?_
        refine wq_aload_n rfl rfl rfl ?_
        refine wq_iload_n rfl rfl ha0 ?_
        obtain ⟨y96, e97, h⟩ := od_bindE h
        refine wd_virtN (q := 56) (y := y96) (as := [36893488147419103288, a0]) rfl rfl rfl (by decide) (Nat.le_of_ble_eq_true rfl) (Nat.le_of_ble_eq_true rfl) rfl (Nat.le_of_ble_eq_true rfl) rfl (dk_s140 hR T10 ha0 e97) (fun T99 => ?_)
        exact wq_ret rfl (wkON h T99)
      replace h := od_neg h h95
      have i100 : y11 < 11 ∨ 24 ≤ y11 := by omega
      clear i94
      by_cases h101 : y11 = 24
      case pos =>
        replace h := od_pos h h101
        refine wq_top h101 ?_
        refine wq_tsw rfl (by decide) (tgt := 215) rfl ?_
        refine wq_aload_n rfl rfl rfl ?_
        refine wq_iload_n rfl rfl ha0 ?_
        obtain ⟨y102, e103, h⟩ := od_bindE h
        refine wd_virtN (q := 56) (y := y102) (as := [36893488147419103288, a0]) rfl rfl rfl (by decide) (Nat.le_of_ble_eq_true rfl) (Nat.le_of_ble_eq_true rfl) rfl (Nat.le_of_ble_eq_true rfl) rfl (dk_s140 hR T10 ha0 e103) (fun T105 => ?_)
        exact wq_ret rfl (wkON h T105)
      replace h := od_neg h h101
      have i106 : y11 < 11 ∨ 25 ≤ y11 := by omega
      clear i100
      by_cases h107 : y11 = 25
      case pos =>
        replace h := od_pos h h107
        refine wq_top h107 ?_
        refine wq_tsw rfl (by decide) (tgt := 168) rfl ?_
        refine wq_aload_n rfl rfl rfl ?_
        refine wq_iload_n rfl rfl ha0 ?_
        obtain ⟨y108, e109, h⟩ := od_bindE h
        refine wd_virtN (q := 56) (y := y108) (as := [36893488147419103288, a0]) rfl rfl rfl (by decide) (Nat.le_of_ble_eq_true rfl) (Nat.le_of_ble_eq_true rfl) rfl (Nat.le_of_ble_eq_true rfl) rfl (dk_s121 hR T10 ha0 e109) (fun T111 => ?_)
        refine wq_goto rfl rfl ?_
        exact wq_ret rfl (wkON h T111)
      replace h := od_neg h h107
      have i112 : y11 < 11 ∨ 26 ≤ y11 := by omega
      clear i106
      by_cases h113 : y11 = 26
      case pos =>
        replace h := od_pos h h113
        refine wq_top h113 ?_
        refine wq_tsw rfl (by decide) (tgt := 215) rfl ?_
        refine wq_aload_n rfl rfl rfl ?_
        refine wq_iload_n rfl rfl ha0 ?_
        obtain ⟨y114, e115, h⟩ := od_bindE h
        refine wd_virtN (q := 56) (y := y114) (as := [36893488147419103288, a0]) rfl rfl rfl (by decide) (Nat.le_of_ble_eq_true rfl) (Nat.le_of_ble_eq_true rfl) rfl (Nat.le_of_ble_eq_true rfl) rfl (dk_s140 hR T10 ha0 e115) (fun T117 => ?_)
        exact wq_ret rfl (wkON h T117)
      replace h := od_neg h h113
      have i118 : y11 < 11 ∨ 27 ≤ y11 := by omega
      clear i112
      by_cases h119 : y11 = 27
      case pos =>
        replace h := od_pos h h119
        refine wq_top h119 ?_
        refine wq_tsw rfl (by decide) (tgt := 215) rfl ?_
        refine wq_aload_n rfl rfl rfl ?_
        refine wq_iload_n rfl rfl ha0 ?_
        obtain ⟨y120, e121, h⟩ := od_bindE h
        refine wd_virtN (q := 56) (y := y120) (as := [36893488147419103288, a0]) rfl rfl rfl (by decide) (Nat.le_of_ble_eq_true rfl) (Nat.le_of_ble_eq_true rfl) rfl (Nat.le_of_ble_eq_true rfl) rfl (dk_s140 hR T10 ha0 e121) (fun T123 => ?_)
        exact wq_ret rfl (wkON h T123)
      replace h := od_neg h h119
      have i124 : y11 < 11 ∨ 28 ≤ y11 := by omega
      clear i118
      by_cases h125 : y11 = 28
      case pos =>
        replace h := od_pos h h125
        refine wq_top h125 ?_
        refine wq_tsw rfl (by decide) (tgt := 215) rfl ?_
        refine wq_aload_n rfl rfl rfl ?_
        refine wq_iload_n rfl rfl ha0 ?_
        obtain ⟨y126, e127, h⟩ := od_bindE h
        refine wd_virtN (q := 56) (y := y126) (as := [36893488147419103288, a0]) rfl rfl rfl (by decide) (Nat.le_of_ble_eq_true rfl) (Nat.le_of_ble_eq_true rfl) rfl (Nat.le_of_ble_eq_true rfl) rfl (dk_s140 hR T10 ha0 e127) (fun T129 => ?_)
        exact wq_ret rfl (wkON h T129)
      replace h := od_neg h h125
      have i130 : y11 < 11 ∨ 29 ≤ y11 := by omega
      clear i124
      by_cases h131 : y11 = 29
      case pos =>
        replace h := od_pos h h131
        refine wq_top h131 ?_
        refine wq_tsw rfl (by decide) (tgt := 215) rfl ?_
        refine wq_aload_n rfl rfl rfl ?_
        refine wq_iload_n rfl rfl ha0 ?_
        obtain ⟨y132, e133, h⟩ := od_bindE h
        refine wd_virtN (q := 56) (y := y132) (as := [36893488147419103288, a0]) rfl rfl rfl (by decide) (Nat.le_of_ble_eq_true rfl) (Nat.le_of_ble_eq_true rfl) rfl (Nat.le_of_ble_eq_true rfl) rfl (dk_s140 hR T10 ha0 e133) (fun T135 => ?_)
        exact wq_ret rfl (wkON h T135)
      replace h := od_neg h h131
      have i136 : y11 < 11 ∨ 30 ≤ y11 := by omega
      clear i130
      by_cases h137 : y11 = 30
      case pos =>
        replace h := od_pos h h137
        refine wq_top h137 ?_
        refine wq_tsw rfl (by decide) (tgt := 160) rfl ?_
        refine wq_aload_n rfl rfl rfl ?_
        refine wq_iload_n rfl rfl ha0 ?_
        obtain ⟨y138, e139, h⟩ := od_bindE h
        refine wd_virtN (q := 56) (y := y138) (as := [36893488147419103288, a0]) rfl rfl rfl (by decide) (Nat.le_of_ble_eq_true rfl) (Nat.le_of_ble_eq_true rfl) rfl (Nat.le_of_ble_eq_true rfl) rfl (dk_s119 hR T10 ha0 e139) (fun T141 => ?_)
        refine wq_goto rfl rfl ?_
        exact wq_ret rfl (wkON h T141)
      replace h := od_neg h h137
      have i142 : y11 < 11 ∨ 31 ≤ y11 := by omega
      clear i136
      refine wq_tswD rfl p13 (by unfold ev_si ev_s; omega) rfl (tgt := 215) rfl ?_
      refine wq_aload_n rfl rfl rfl ?_
      refine wq_iload_n rfl rfl ha0 ?_
      obtain ⟨y143, e144, h⟩ := od_bindE h
      refine wd_virtN (q := 56) (y := y143) (as := [36893488147419103288, a0]) rfl rfl rfl (by decide) (Nat.le_of_ble_eq_true rfl) (Nat.le_of_ble_eq_true rfl) rfl (Nat.le_of_ble_eq_true rfl) rfl (dk_s140 hR T10 ha0 e144) (fun T146 => ?_)
      exact wq_ret rfl (wkON h T146)
    · replace h := od_neg h h6
      exact wq_ret rfl (wkON h T5)
  · replace h := od_pos h h1
    refine wq_aload_n rfl rfl rfl ?_
    refine wq_iconst rfl rfl ?_
    obtain ⟨y147, e148, h⟩ := od_bindE h
    refine wd_virtN (q := 56) (y := y147) (as := [36893488147419103288, 3]) rfl rfl rfl (by decide) (Nat.le_of_ble_eq_true rfl) (Nat.le_of_ble_eq_true rfl) rfl (Nat.le_of_ble_eq_true rfl) rfl (dkT_109 hT (by decide) e148) (fun T150 => ?_)
    exact wq_ret rfl (wkON h T150)
def dk_117_42 (R : dk_Rt) (n : Nat) (F : wq_F) (v2 : Nat) (v3 : Nat) : Option (Nat × wq_F) :=
  (dk_78 F 20 v3 0 v2).bind fun y1 =>
  (dk_162 y1.2 v3).bind fun y5 =>
  (dk_111 n y5.2 57).bind fun y9 =>
  some (0, y9.2)
theorem dk_117_42T {d n : Nat} {R : dk_Rt} (hR : dk_spec (d + 12) R) : ∀ ⦃u1 : Nat⦄ ⦃F : wq_F⦄ (hT : xm_T F) ⦃v2 : Nat⦄ (hv2 : v2 < 4294967296) ⦃v3 : Nat⦄ (hv3 : v3 < 4294967296) (hu1 : ev_isL u1 = false) ⦃x : Nat × wq_F⦄ (h : dk_117_42 R n F v2 v3 = some x), wq (wq_cf (d + 12)) (ev_un al_mX4_returnStatement.2.2.2.2) none 42 [36893488147419103288, u1, v2, v3] [] xm_sh F 0 0 (wkN xm_T xm_sh x) := by
  intro u1 F hT v2 hv2 v3 hv3 hu1 x h
  unfold dk_117_42 at h
  refine wq_aload_n rfl rfl rfl ?_
  refine wq_bipush rfl rfl ?_
  refine wq_iload_n rfl rfl hv3 ?_
  refine wq_iconst rfl rfl ?_
  refine wq_iload_n rfl rfl hv2 ?_
  obtain ⟨y1, e2, h⟩ := od_bindE h
  refine wd_virtI (q := 56) (y := y1) (as := [36893488147419103288, 20, v3, 0, v2]) rfl rfl rfl (by decide) (Nat.le_of_ble_eq_true rfl) (Nat.le_of_ble_eq_true rfl) rfl (Nat.le_of_ble_eq_true rfl) rfl (dkT_78 hT (by decide) hv3 (wm_zlt (by decide)) hv2 e2) (fun p3 T4 => ?_)
  refine wq_pop rfl (wq_notL p3) ?_
  refine wq_aload_n rfl rfl rfl ?_
  refine xm_getR (v := 36893488147419103291) (q := 56) rfl rfl (by decide) (by decide) (T4.r (k := 56) 3 58 rfl (by decide) rfl) ?_
  refine wq_iload_n rfl rfl hv3 ?_
  obtain ⟨y5, e6, h⟩ := od_bindE h
  refine wd_virtN (q := 59) (y := y5) (as := [36893488147419103291, v3]) rfl rfl rfl (by decide) (Nat.le_of_ble_eq_true rfl) (Nat.le_of_ble_eq_true rfl) rfl (Nat.le_of_ble_eq_true rfl) rfl (dkT_162 T4 hv3 e6) (fun T8 => ?_)
  refine wq_aload_n rfl rfl rfl ?_
  refine wq_bipush rfl rfl ?_
  obtain ⟨y9, e10, h⟩ := od_bindE h
  refine wd_virtZ (q := 56) (y := y9) (as := [36893488147419103288, 57]) rfl rfl rfl (by decide) (Nat.le_of_ble_eq_true rfl) (Nat.le_of_ble_eq_true rfl) rfl (Nat.le_of_ble_eq_true rfl) rfl (dkT_111 T8 (by decide) e10) (fun p11 T12 => ?_)
  refine wq_pop rfl (wq_notL (wm_zlt p11)) ?_
  exact wq_ret rfl (wkON h T12)
/-- X4_returnStatement -/
def dk_117 (R : dk_Rt) (n : Nat) (F : wq_F) (a0 : Nat) : Option (Nat × wq_F) :=
  (dk_84 F).bind fun y1 =>
  (dk_78 y1.2 0 0 0 (F 57 6)).bind fun y5 =>
  (dk_77 n y5.2).bind fun y9 =>
  (dk_114 y9.2).bind fun y13 =>
  if y13.1 = 0 then
    dk_117_42 R n y13.2 (F 57 6) y1.1
  else
    (R 144 [a0] y13.2).bind fun y18 =>
    dk_117_42 R n y18.2 (F 57 6) y1.1
theorem dkT_117 {d n : Nat} {R : dk_Rt} (hR : dk_spec (d + 12) R) {F : wq_F} (hT : xm_T F) {a0 : Nat} (ha0 : a0 < 4294967296) {x : Nat × wq_F} (h : dk_117 R n F a0 = some x) : mq (d + 12 + 1) 117 [36893488147419103288, a0] xm_sh F (wkN xm_T xm_sh x) := by
  have e : ev_ent [36893488147419103288, a0] = [36893488147419103288, a0] := by
    show 36893488147419103288 :: ev_ent [a0] = _
    rw [wm_entI ha0]
    rfl
  refine mq_of (maxL := 4) (rt := none) (code := (ev_un al_mX4_returnStatement.2.2.2.2)) (L := [36893488147419103288, a0, 73786976294838206464, 73786976294838206464]) rfl (by rw [e]; exact Nat.le_of_ble_eq_true rfl) (by rw [e]; rfl) ?_
  unfold dk_117 at h
  refine wq_aload_n rfl rfl rfl ?_
  refine xm_getR (v := 36893488147419103289) (q := 56) rfl rfl (by decide) (by decide) (hT.r (k := 56) 0 56 rfl (by decide) rfl) ?_
  refine xm_getI (q := 57) rfl rfl (by decide) (by decide) ?_
  refine wq_istore_n rfl (hT.i (k := 57) 6 rfl (by decide) rfl) (Nat.le_of_ble_eq_true rfl) (Or.inr ⟨_, rfl, (wq_notL ha0)⟩) (L' := [36893488147419103288, a0, F 57 6, 73786976294838206464]) rfl ?_
  refine wq_aload_n rfl rfl rfl ?_
  refine xm_getR (v := 36893488147419103291) (q := 56) rfl rfl (by decide) (by decide) (hT.r (k := 56) 3 58 rfl (by decide) rfl) ?_
  obtain ⟨y1, e2, h⟩ := od_bindE h
  refine wd_virtI (q := 59) (y := y1) (as := [36893488147419103291]) rfl rfl rfl (by decide) (Nat.le_of_ble_eq_true rfl) (Nat.le_of_ble_eq_true rfl) rfl (Nat.le_of_ble_eq_true rfl) rfl (dkT_84 hT e2) (fun p3 T4 => ?_)
  refine wq_istore_n rfl p3 (Nat.le_of_ble_eq_true rfl) (Or.inr ⟨_, rfl, (wq_notL (hT.i (k := 57) 6 rfl (by decide) rfl))⟩) (L' := [36893488147419103288, a0, F 57 6, y1.1]) rfl ?_
  refine wq_aload_n rfl rfl rfl ?_
  refine wq_iconst rfl rfl ?_
  refine wq_iconst rfl rfl ?_
  refine wq_iconst rfl rfl ?_
  refine wq_iload_n rfl rfl (hT.i (k := 57) 6 rfl (by decide) rfl) ?_
  obtain ⟨y5, e6, h⟩ := od_bindE h
  refine wd_virtI (q := 56) (y := y5) (as := [36893488147419103288, 0, 0, 0, F 57 6]) rfl rfl rfl (by decide) (Nat.le_of_ble_eq_true rfl) (Nat.le_of_ble_eq_true rfl) rfl (Nat.le_of_ble_eq_true rfl) rfl (dkT_78 T4 (wm_zlt (by decide)) (wm_zlt (by decide)) (wm_zlt (by decide)) (hT.i (k := 57) 6 rfl (by decide) rfl) e6) (fun p7 T8 => ?_)
  refine wq_pop rfl (wq_notL p7) ?_
  refine wq_aload_n rfl rfl rfl ?_
  obtain ⟨y9, e10, h⟩ := od_bindE h
  refine wd_virtN (q := 56) (y := y9) (as := [36893488147419103288]) rfl rfl rfl (by decide) (Nat.le_of_ble_eq_true rfl) (Nat.le_of_ble_eq_true rfl) rfl (Nat.le_of_ble_eq_true rfl) rfl (dkT_77 T8 e10) (fun T12 => ?_)
  refine wq_aload_n rfl rfl rfl ?_
  obtain ⟨y13, e14, h⟩ := od_bindE h
  refine wd_virtZ (q := 56) (y := y13) (as := [36893488147419103288]) rfl rfl rfl (by decide) (Nat.le_of_ble_eq_true rfl) (Nat.le_of_ble_eq_true rfl) rfl (Nat.le_of_ble_eq_true rfl) rfl (dkT_114 T12 e14) (fun p15 T16 => ?_)
  refine wq_if_eq rfl rfl (wm_zlt p15) (fun h17 => ?_) (fun h17 => ?_)
  · replace h := od_pos h h17
    exact dk_117_42T hR T16 (hT.i (k := 57) 6 rfl (by decide) rfl) p3 (wq_notL ha0) h
  · replace h := od_neg h h17
    refine wq_aload_n rfl rfl rfl ?_
    refine wq_iload_n rfl rfl ha0 ?_
    obtain ⟨y18, e19, h⟩ := od_bindE h
    refine wd_virtI (q := 56) (y := y18) (as := [36893488147419103288, a0]) rfl rfl rfl (by decide) (Nat.le_of_ble_eq_true rfl) (Nat.le_of_ble_eq_true rfl) rfl (Nat.le_of_ble_eq_true rfl) rfl (dk_s144 hR T16 ha0 e19) (fun p20 T21 => ?_)
    refine wq_pop rfl (wq_notL p20) ?_
    exact dk_117_42T hR T21 (hT.i (k := 57) 6 rfl (by decide) rfl) p3 (wq_notL ha0) h
/-- X4_whileStatement -/
def dk_119 (R : dk_Rt) (n : Nat) (F : wq_F) (a0 : Nat) : Option (Nat × wq_F) :=
  (dk_164 F).bind fun y1 =>
  (dk_84 y1.2).bind fun y5 =>
  (dk_77 n y5.2).bind fun y9 =>
  (dk_78 y9.2 0 0 0 0).bind fun y13 =>
  (R 148 [0, (a0 + 1) % 4294967296] y13.2).bind fun y17 =>
  (dk_78 y17.2 22 0 4294967295 0).bind fun y21 =>
  (dk_165 y21.2 y21.1).bind fun y25 =>
  (dk_163 y25.2 4294967295).bind fun y29 =>
  (dk_110 n y29.2 12).bind fun y33 =>
  (R 115 [(a0 + 1) % 4294967296] y33.2).bind fun y37 =>
  (dk_110 n y37.2 15).bind fun y41 =>
  (dk_78 y41.2 21 0 (y9.2 11 4) 0).bind fun y45 =>
  (dk_120 n y45.2 y5.1 y1.1).bind fun y49 =>
  some (0, y49.2)
theorem dkT_119 {d n : Nat} {R : dk_Rt} (hR : dk_spec (d + 12) R) {F : wq_F} (hT : xm_T F) {a0 : Nat} (ha0 : a0 < 4294967296) {x : Nat × wq_F} (h : dk_119 R n F a0 = some x) : mq (d + 12 + 1) 119 [36893488147419103288, a0] xm_sh F (wkN xm_T xm_sh x) := by
  have e : ev_ent [36893488147419103288, a0] = [36893488147419103288, a0] := by
    show 36893488147419103288 :: ev_ent [a0] = _
    rw [wm_entI ha0]
    rfl
  refine mq_of (maxL := 5) (rt := none) (code := (ev_un al_mX4_whileStatement.2.2.2.2)) (L := [36893488147419103288, a0, 73786976294838206464, 73786976294838206464, 73786976294838206464]) rfl (by rw [e]; exact Nat.le_of_ble_eq_true rfl) (by rw [e]; rfl) ?_
  unfold dk_119 at h
  refine wq_aload_n rfl rfl rfl ?_
  refine xm_getR (v := 36893488147419103291) (q := 56) rfl rfl (by decide) (by decide) (hT.r (k := 56) 3 58 rfl (by decide) rfl) ?_
  obtain ⟨y1, e2, h⟩ := od_bindE h
  refine wd_virtI (q := 59) (y := y1) (as := [36893488147419103291]) rfl rfl rfl (by decide) (Nat.le_of_ble_eq_true rfl) (Nat.le_of_ble_eq_true rfl) rfl (Nat.le_of_ble_eq_true rfl) rfl (dkT_164 hT e2) (fun p3 T4 => ?_)
  refine wq_istore_n rfl p3 (Nat.le_of_ble_eq_true rfl) (Or.inr ⟨_, rfl, (wq_notL ha0)⟩) (L' := [36893488147419103288, a0, y1.1, 73786976294838206464, 73786976294838206464]) rfl ?_
  refine wq_aload_n rfl rfl rfl ?_
  refine xm_getR (v := 36893488147419103291) (q := 56) rfl rfl (by decide) (by decide) (T4.r (k := 56) 3 58 rfl (by decide) rfl) ?_
  obtain ⟨y5, e6, h⟩ := od_bindE h
  refine wd_virtI (q := 59) (y := y5) (as := [36893488147419103291]) rfl rfl rfl (by decide) (Nat.le_of_ble_eq_true rfl) (Nat.le_of_ble_eq_true rfl) rfl (Nat.le_of_ble_eq_true rfl) rfl (dkT_84 T4 e6) (fun p7 T8 => ?_)
  refine wq_istore_n rfl p7 (Nat.le_of_ble_eq_true rfl) (Or.inr ⟨_, rfl, (wq_notL p3)⟩) (L' := [36893488147419103288, a0, y1.1, y5.1, 73786976294838206464]) rfl ?_
  refine wq_aload_n rfl rfl rfl ?_
  obtain ⟨y9, e10, h⟩ := od_bindE h
  refine wd_virtN (q := 56) (y := y9) (as := [36893488147419103288]) rfl rfl rfl (by decide) (Nat.le_of_ble_eq_true rfl) (Nat.le_of_ble_eq_true rfl) rfl (Nat.le_of_ble_eq_true rfl) rfl (dkT_77 T8 e10) (fun T12 => ?_)
  refine wq_aload_n rfl rfl rfl ?_
  refine xm_getR (v := 36893488147419103243) (q := 56) rfl rfl (by decide) (by decide) (T12.r (k := 56) 1 10 rfl (by decide) rfl) ?_
  refine xm_getI (q := 11) rfl rfl (by decide) (by decide) ?_
  refine wq_istore rfl (T12.i (k := 11) 4 rfl (by decide) rfl) (Nat.le_of_ble_eq_true rfl) (Or.inr ⟨_, rfl, (wq_notL p7)⟩) (L' := [36893488147419103288, a0, y1.1, y5.1, y9.2 11 4]) rfl ?_
  refine wq_aload_n rfl rfl rfl ?_
  refine wq_iconst rfl rfl ?_
  refine wq_iconst rfl rfl ?_
  refine wq_iconst rfl rfl ?_
  refine wq_iconst rfl rfl ?_
  obtain ⟨y13, e14, h⟩ := od_bindE h
  refine wd_virtI (q := 56) (y := y13) (as := [36893488147419103288, 0, 0, 0, 0]) rfl rfl rfl (by decide) (Nat.le_of_ble_eq_true rfl) (Nat.le_of_ble_eq_true rfl) rfl (Nat.le_of_ble_eq_true rfl) rfl (dkT_78 T12 (wm_zlt (by decide)) (wm_zlt (by decide)) (wm_zlt (by decide)) (wm_zlt (by decide)) e14) (fun p15 T16 => ?_)
  refine wq_pop rfl (wq_notL p15) ?_
  refine wq_aload_n rfl rfl rfl ?_
  refine wq_iconst rfl rfl ?_
  refine wq_iload_n rfl rfl ha0 ?_
  refine wq_iconst rfl rfl ?_
  refine wq_iaddZ rfl ha0 (wm_zlt (by decide)) (z := (a0 + 1) % 4294967296) rfl ?_
  obtain ⟨y17, e18, h⟩ := od_bindE h
  refine wd_virtZ (q := 56) (y := y17) (as := [36893488147419103288, 0, (a0 + 1) % 4294967296]) rfl rfl rfl (by decide) (Nat.le_of_ble_eq_true rfl) (Nat.le_of_ble_eq_true rfl) rfl (Nat.le_of_ble_eq_true rfl) rfl (dk_s148 hR T16 (wm_zlt (by decide)) (Nat.mod_lt _ (by decide)) e18) (fun p19 T20 => ?_)
  refine wq_pop rfl (wq_notL (wm_zlt p19)) ?_
  refine wq_aload_n rfl rfl rfl ?_
  refine xm_getR (v := 36893488147419103291) (q := 56) rfl rfl (by decide) (by decide) (T20.r (k := 56) 3 58 rfl (by decide) rfl) ?_
  refine wq_aload_n rfl rfl rfl ?_
  refine wq_bipush rfl rfl ?_
  refine wq_iconst rfl rfl ?_
  refine wq_iconst rfl rfl ?_
  refine wq_iconst rfl rfl ?_
  obtain ⟨y21, e22, h⟩ := od_bindE h
  refine wd_virtI (q := 56) (y := y21) (as := [36893488147419103288, 22, 0, 4294967295, 0]) rfl rfl rfl (by decide) (Nat.le_of_ble_eq_true rfl) (Nat.le_of_ble_eq_true rfl) rfl (Nat.le_of_ble_eq_true rfl) rfl (dkT_78 T20 (by decide) (wm_zlt (by decide)) (by decide) (wm_zlt (by decide)) e22) (fun p23 T24 => ?_)
  obtain ⟨y25, e26, h⟩ := od_bindE h
  refine wd_virtN (q := 59) (y := y25) (as := [36893488147419103291, y21.1]) rfl rfl rfl (by decide) (Nat.le_of_ble_eq_true rfl) (Nat.le_of_ble_eq_true rfl) rfl (Nat.le_of_ble_eq_true rfl) rfl (dkT_165 T24 p23 e26) (fun T28 => ?_)
  refine wq_aload_n rfl rfl rfl ?_
  refine xm_getR (v := 36893488147419103291) (q := 56) rfl rfl (by decide) (by decide) (T28.r (k := 56) 3 58 rfl (by decide) rfl) ?_
  refine wq_iconst rfl rfl ?_
  obtain ⟨y29, e30, h⟩ := od_bindE h
  refine wd_virtN (q := 59) (y := y29) (as := [36893488147419103291, 4294967295]) rfl rfl rfl (by decide) (Nat.le_of_ble_eq_true rfl) (Nat.le_of_ble_eq_true rfl) rfl (Nat.le_of_ble_eq_true rfl) rfl (dkT_163 T28 (by decide) e30) (fun T32 => ?_)
  refine wq_aload_n rfl rfl rfl ?_
  refine wq_bipush rfl rfl ?_
  obtain ⟨y33, e34, h⟩ := od_bindE h
  refine wd_virtN (q := 56) (y := y33) (as := [36893488147419103288, 12]) rfl rfl rfl (by decide) (Nat.le_of_ble_eq_true rfl) (Nat.le_of_ble_eq_true rfl) rfl (Nat.le_of_ble_eq_true rfl) rfl (dkT_110 T32 (by decide) e34) (fun T36 => ?_)
  refine wq_aload_n rfl rfl rfl ?_
  refine wq_iload_n rfl rfl ha0 ?_
  refine wq_iconst rfl rfl ?_
  refine wq_iaddZ rfl ha0 (wm_zlt (by decide)) (z := (a0 + 1) % 4294967296) rfl ?_
  obtain ⟨y37, e38, h⟩ := od_bindE h
  refine wd_virtN (q := 56) (y := y37) (as := [36893488147419103288, (a0 + 1) % 4294967296]) rfl rfl rfl (by decide) (Nat.le_of_ble_eq_true rfl) (Nat.le_of_ble_eq_true rfl) rfl (Nat.le_of_ble_eq_true rfl) rfl (dk_s115 hR T36 (Nat.mod_lt _ (by decide)) e38) (fun T40 => ?_)
  refine wq_aload_n rfl rfl rfl ?_
  refine wq_bipush rfl rfl ?_
  obtain ⟨y41, e42, h⟩ := od_bindE h
  refine wd_virtN (q := 56) (y := y41) (as := [36893488147419103288, 15]) rfl rfl rfl (by decide) (Nat.le_of_ble_eq_true rfl) (Nat.le_of_ble_eq_true rfl) rfl (Nat.le_of_ble_eq_true rfl) rfl (dkT_110 T40 (by decide) e42) (fun T44 => ?_)
  refine wq_aload_n rfl rfl rfl ?_
  refine wq_bipush rfl rfl ?_
  refine wq_iconst rfl rfl ?_
  refine wq_iload rfl rfl (T12.i (k := 11) 4 rfl (by decide) rfl) ?_
  refine wq_iconst rfl rfl ?_
  obtain ⟨y45, e46, h⟩ := od_bindE h
  refine wd_virtI (q := 56) (y := y45) (as := [36893488147419103288, 21, 0, y9.2 11 4, 0]) rfl rfl rfl (by decide) (Nat.le_of_ble_eq_true rfl) (Nat.le_of_ble_eq_true rfl) rfl (Nat.le_of_ble_eq_true rfl) rfl (dkT_78 T44 (by decide) (wm_zlt (by decide)) (T12.i (k := 11) 4 rfl (by decide) rfl) (wm_zlt (by decide)) e46) (fun p47 T48 => ?_)
  refine wq_pop rfl (wq_notL p47) ?_
  refine wq_aload_n rfl rfl rfl ?_
  refine wq_iload_n rfl rfl p7 ?_
  refine wq_iload_n rfl rfl p3 ?_
  obtain ⟨y49, e50, h⟩ := od_bindE h
  refine wd_virtN (q := 56) (y := y49) (as := [36893488147419103288, y5.1, y1.1]) rfl rfl rfl (by decide) (Nat.le_of_ble_eq_true rfl) (Nat.le_of_ble_eq_true rfl) rfl (Nat.le_of_ble_eq_true rfl) rfl (dkT_120 T48 p7 p3 e50) (fun T52 => ?_)
  exact wq_ret rfl (wkON h T52)
/-- X4_repeatStatement -/
def dk_121 (R : dk_Rt) (n : Nat) (F : wq_F) (a0 : Nat) : Option (Nat × wq_F) :=
  (dk_164 F).bind fun y1 =>
  (dk_84 y1.2).bind fun y5 =>
  (dk_77 n y5.2).bind fun y9 =>
  (dk_165 y9.2 4294967295).bind fun y13 =>
  (R 80 [(a0 + 1) % 4294967296] y13.2).bind fun y17 =>
  (dk_110 n y17.2 29).bind fun y21 =>
  (dk_78 y21.2 0 0 0 0).bind fun y25 =>
  (R 148 [0, (a0 + 1) % 4294967296] y25.2).bind fun y29 =>
  (dk_78 y29.2 22 0 4294967295 0).bind fun y33 =>
  (dk_164 y33.2).bind fun y37 =>
  (dk_78 y37.2 21 0 y37.1 0).bind fun y41 =>
  (dk_165 y41.2 y41.1).bind fun y45 =>
  (dk_159 n y45.2 y33.1).bind fun y49 =>
  (dk_113 y49.2 y5.1).bind fun y53 =>
  (dk_78 y53.2 21 0 (y9.2 11 4) 0).bind fun y57 =>
  (dk_168 y57.2 (y5.2 59 3)).bind fun y61 =>
  (dk_120 n y61.2 y5.1 y1.1).bind fun y65 =>
  some (0, y65.2)
theorem dkT_121 {d n : Nat} {R : dk_Rt} (hR : dk_spec (d + 12) R) {F : wq_F} (hT : xm_T F) {a0 : Nat} (ha0 : a0 < 4294967296) {x : Nat × wq_F} (h : dk_121 R n F a0 = some x) : mq (d + 12 + 1) 121 [36893488147419103288, a0] xm_sh F (wkN xm_T xm_sh x) := by
  have e : ev_ent [36893488147419103288, a0] = [36893488147419103288, a0] := by
    show 36893488147419103288 :: ev_ent [a0] = _
    rw [wm_entI ha0]
    rfl
  refine mq_of (maxL := 7) (rt := none) (code := (ev_un al_mX4_repeatStatement.2.2.2.2)) (L := [36893488147419103288, a0, 73786976294838206464, 73786976294838206464, 73786976294838206464, 73786976294838206464, 73786976294838206464]) rfl (by rw [e]; exact Nat.le_of_ble_eq_true rfl) (by rw [e]; rfl) ?_
  unfold dk_121 at h
  refine wq_aload_n rfl rfl rfl ?_
  refine xm_getR (v := 36893488147419103291) (q := 56) rfl rfl (by decide) (by decide) (hT.r (k := 56) 3 58 rfl (by decide) rfl) ?_
  obtain ⟨y1, e2, h⟩ := od_bindE h
  refine wd_virtI (q := 59) (y := y1) (as := [36893488147419103291]) rfl rfl rfl (by decide) (Nat.le_of_ble_eq_true rfl) (Nat.le_of_ble_eq_true rfl) rfl (Nat.le_of_ble_eq_true rfl) rfl (dkT_164 hT e2) (fun p3 T4 => ?_)
  refine wq_istore_n rfl p3 (Nat.le_of_ble_eq_true rfl) (Or.inr ⟨_, rfl, (wq_notL ha0)⟩) (L' := [36893488147419103288, a0, y1.1, 73786976294838206464, 73786976294838206464, 73786976294838206464, 73786976294838206464]) rfl ?_
  refine wq_aload_n rfl rfl rfl ?_
  refine xm_getR (v := 36893488147419103291) (q := 56) rfl rfl (by decide) (by decide) (T4.r (k := 56) 3 58 rfl (by decide) rfl) ?_
  obtain ⟨y5, e6, h⟩ := od_bindE h
  refine wd_virtI (q := 59) (y := y5) (as := [36893488147419103291]) rfl rfl rfl (by decide) (Nat.le_of_ble_eq_true rfl) (Nat.le_of_ble_eq_true rfl) rfl (Nat.le_of_ble_eq_true rfl) rfl (dkT_84 T4 e6) (fun p7 T8 => ?_)
  refine wq_istore_n rfl p7 (Nat.le_of_ble_eq_true rfl) (Or.inr ⟨_, rfl, (wq_notL p3)⟩) (L' := [36893488147419103288, a0, y1.1, y5.1, 73786976294838206464, 73786976294838206464, 73786976294838206464]) rfl ?_
  refine wq_aload_n rfl rfl rfl ?_
  refine xm_getR (v := 36893488147419103291) (q := 56) rfl rfl (by decide) (by decide) (T8.r (k := 56) 3 58 rfl (by decide) rfl) ?_
  refine xm_getI (q := 59) rfl rfl (by decide) (by decide) ?_
  refine wq_istore rfl (T8.i (k := 59) 3 rfl (by decide) rfl) (Nat.le_of_ble_eq_true rfl) (Or.inr ⟨_, rfl, (wq_notL p7)⟩) (L' := [36893488147419103288, a0, y1.1, y5.1, y5.2 59 3, 73786976294838206464, 73786976294838206464]) rfl ?_
  refine wq_aload_n rfl rfl rfl ?_
  obtain ⟨y9, e10, h⟩ := od_bindE h
  refine wd_virtN (q := 56) (y := y9) (as := [36893488147419103288]) rfl rfl rfl (by decide) (Nat.le_of_ble_eq_true rfl) (Nat.le_of_ble_eq_true rfl) rfl (Nat.le_of_ble_eq_true rfl) rfl (dkT_77 T8 e10) (fun T12 => ?_)
  refine wq_aload_n rfl rfl rfl ?_
  refine xm_getR (v := 36893488147419103243) (q := 56) rfl rfl (by decide) (by decide) (T12.r (k := 56) 1 10 rfl (by decide) rfl) ?_
  refine xm_getI (q := 11) rfl rfl (by decide) (by decide) ?_
  refine wq_istore rfl (T12.i (k := 11) 4 rfl (by decide) rfl) (Nat.le_of_ble_eq_true rfl) (Or.inr ⟨_, rfl, (wq_notL (T8.i (k := 59) 3 rfl (by decide) rfl))⟩) (L' := [36893488147419103288, a0, y1.1, y5.1, y5.2 59 3, y9.2 11 4, 73786976294838206464]) rfl ?_
  refine wq_aload_n rfl rfl rfl ?_
  refine xm_getR (v := 36893488147419103291) (q := 56) rfl rfl (by decide) (by decide) (T12.r (k := 56) 3 58 rfl (by decide) rfl) ?_
  refine wq_iconst rfl rfl ?_
  obtain ⟨y13, e14, h⟩ := od_bindE h
  refine wd_virtN (q := 59) (y := y13) (as := [36893488147419103291, 4294967295]) rfl rfl rfl (by decide) (Nat.le_of_ble_eq_true rfl) (Nat.le_of_ble_eq_true rfl) rfl (Nat.le_of_ble_eq_true rfl) rfl (dkT_165 T12 (by decide) e14) (fun T16 => ?_)
  refine wq_aload_n rfl rfl rfl ?_
  refine wq_iload_n rfl rfl ha0 ?_
  refine wq_iconst rfl rfl ?_
  refine wq_iaddZ rfl ha0 (wm_zlt (by decide)) (z := (a0 + 1) % 4294967296) rfl ?_
  obtain ⟨y17, e18, h⟩ := od_bindE h
  refine wd_virtN (q := 56) (y := y17) (as := [36893488147419103288, (a0 + 1) % 4294967296]) rfl rfl rfl (by decide) (Nat.le_of_ble_eq_true rfl) (Nat.le_of_ble_eq_true rfl) rfl (Nat.le_of_ble_eq_true rfl) rfl (dk_s80 hR T16 (Nat.mod_lt _ (by decide)) e18) (fun T20 => ?_)
  refine wq_aload_n rfl rfl rfl ?_
  refine wq_bipush rfl rfl ?_
  obtain ⟨y21, e22, h⟩ := od_bindE h
  refine wd_virtN (q := 56) (y := y21) (as := [36893488147419103288, 29]) rfl rfl rfl (by decide) (Nat.le_of_ble_eq_true rfl) (Nat.le_of_ble_eq_true rfl) rfl (Nat.le_of_ble_eq_true rfl) rfl (dkT_110 T20 (by decide) e22) (fun T24 => ?_)
  refine wq_aload_n rfl rfl rfl ?_
  refine wq_iconst rfl rfl ?_
  refine wq_iconst rfl rfl ?_
  refine wq_iconst rfl rfl ?_
  refine wq_iconst rfl rfl ?_
  obtain ⟨y25, e26, h⟩ := od_bindE h
  refine wd_virtI (q := 56) (y := y25) (as := [36893488147419103288, 0, 0, 0, 0]) rfl rfl rfl (by decide) (Nat.le_of_ble_eq_true rfl) (Nat.le_of_ble_eq_true rfl) rfl (Nat.le_of_ble_eq_true rfl) rfl (dkT_78 T24 (wm_zlt (by decide)) (wm_zlt (by decide)) (wm_zlt (by decide)) (wm_zlt (by decide)) e26) (fun p27 T28 => ?_)
  refine wq_pop rfl (wq_notL p27) ?_
  refine wq_aload_n rfl rfl rfl ?_
  refine wq_iconst rfl rfl ?_
  refine wq_iload_n rfl rfl ha0 ?_
  refine wq_iconst rfl rfl ?_
  refine wq_iaddZ rfl ha0 (wm_zlt (by decide)) (z := (a0 + 1) % 4294967296) rfl ?_
  obtain ⟨y29, e30, h⟩ := od_bindE h
  refine wd_virtZ (q := 56) (y := y29) (as := [36893488147419103288, 0, (a0 + 1) % 4294967296]) rfl rfl rfl (by decide) (Nat.le_of_ble_eq_true rfl) (Nat.le_of_ble_eq_true rfl) rfl (Nat.le_of_ble_eq_true rfl) rfl (dk_s148 hR T28 (wm_zlt (by decide)) (Nat.mod_lt _ (by decide)) e30) (fun p31 T32 => ?_)
  refine wq_pop rfl (wq_notL (wm_zlt p31)) ?_
  refine wq_aload_n rfl rfl rfl ?_
  refine wq_bipush rfl rfl ?_
  refine wq_iconst rfl rfl ?_
  refine wq_iconst rfl rfl ?_
  refine wq_iconst rfl rfl ?_
  obtain ⟨y33, e34, h⟩ := od_bindE h
  refine wd_virtI (q := 56) (y := y33) (as := [36893488147419103288, 22, 0, 4294967295, 0]) rfl rfl rfl (by decide) (Nat.le_of_ble_eq_true rfl) (Nat.le_of_ble_eq_true rfl) rfl (Nat.le_of_ble_eq_true rfl) rfl (dkT_78 T32 (by decide) (wm_zlt (by decide)) (by decide) (wm_zlt (by decide)) e34) (fun p35 T36 => ?_)
  refine wq_istore rfl p35 (Nat.le_of_ble_eq_true rfl) (Or.inr ⟨_, rfl, (wq_notL (T12.i (k := 11) 4 rfl (by decide) rfl))⟩) (L' := [36893488147419103288, a0, y1.1, y5.1, y5.2 59 3, y9.2 11 4, y33.1]) rfl ?_
  refine wq_aload_n rfl rfl rfl ?_
  refine xm_getR (v := 36893488147419103291) (q := 56) rfl rfl (by decide) (by decide) (T36.r (k := 56) 3 58 rfl (by decide) rfl) ?_
  refine wq_aload_n rfl rfl rfl ?_
  refine wq_bipush rfl rfl ?_
  refine wq_iconst rfl rfl ?_
  refine wq_aload_n rfl rfl rfl ?_
  refine xm_getR (v := 36893488147419103291) (q := 56) rfl rfl (by decide) (by decide) (T36.r (k := 56) 3 58 rfl (by decide) rfl) ?_
  obtain ⟨y37, e38, h⟩ := od_bindE h
  refine wd_virtI (q := 59) (y := y37) (as := [36893488147419103291]) rfl rfl rfl (by decide) (Nat.le_of_ble_eq_true rfl) (Nat.le_of_ble_eq_true rfl) rfl (Nat.le_of_ble_eq_true rfl) rfl (dkT_164 T36 e38) (fun p39 T40 => ?_)
  refine wq_iconst rfl rfl ?_
  obtain ⟨y41, e42, h⟩ := od_bindE h
  refine wd_virtI (q := 56) (y := y41) (as := [36893488147419103288, 21, 0, y37.1, 0]) rfl rfl rfl (by decide) (Nat.le_of_ble_eq_true rfl) (Nat.le_of_ble_eq_true rfl) rfl (Nat.le_of_ble_eq_true rfl) rfl (dkT_78 T40 (by decide) (wm_zlt (by decide)) p39 (wm_zlt (by decide)) e42) (fun p43 T44 => ?_)
  obtain ⟨y45, e46, h⟩ := od_bindE h
  refine wd_virtN (q := 59) (y := y45) (as := [36893488147419103291, y41.1]) rfl rfl rfl (by decide) (Nat.le_of_ble_eq_true rfl) (Nat.le_of_ble_eq_true rfl) rfl (Nat.le_of_ble_eq_true rfl) rfl (dkT_165 T44 p43 e46) (fun T48 => ?_)
  refine wq_aload_n rfl rfl rfl ?_
  refine xm_getR (v := 36893488147419103243) (q := 56) rfl rfl (by decide) (by decide) (T48.r (k := 56) 1 10 rfl (by decide) rfl) ?_
  refine wq_iload rfl rfl p35 ?_
  obtain ⟨y49, e50, h⟩ := od_bindE h
  refine wd_virtN (q := 11) (y := y49) (as := [36893488147419103243, y33.1]) rfl rfl rfl (by decide) (Nat.le_of_ble_eq_true rfl) (Nat.le_of_ble_eq_true rfl) rfl (Nat.le_of_ble_eq_true rfl) rfl (dkT_159 T48 p35 e50) (fun T52 => ?_)
  refine wq_aload_n rfl rfl rfl ?_
  refine wq_iload_n rfl rfl p7 ?_
  obtain ⟨y53, e54, h⟩ := od_bindE h
  refine wd_virtN (q := 56) (y := y53) (as := [36893488147419103288, y5.1]) rfl rfl rfl (by decide) (Nat.le_of_ble_eq_true rfl) (Nat.le_of_ble_eq_true rfl) rfl (Nat.le_of_ble_eq_true rfl) rfl (dkT_113 T52 p7 e54) (fun T56 => ?_)
  refine wq_aload_n rfl rfl rfl ?_
  refine wq_bipush rfl rfl ?_
  refine wq_iconst rfl rfl ?_
  refine wq_iload rfl rfl (T12.i (k := 11) 4 rfl (by decide) rfl) ?_
  refine wq_iconst rfl rfl ?_
  obtain ⟨y57, e58, h⟩ := od_bindE h
  refine wd_virtI (q := 56) (y := y57) (as := [36893488147419103288, 21, 0, y9.2 11 4, 0]) rfl rfl rfl (by decide) (Nat.le_of_ble_eq_true rfl) (Nat.le_of_ble_eq_true rfl) rfl (Nat.le_of_ble_eq_true rfl) rfl (dkT_78 T56 (by decide) (wm_zlt (by decide)) (T12.i (k := 11) 4 rfl (by decide) rfl) (wm_zlt (by decide)) e58) (fun p59 T60 => ?_)
  refine wq_pop rfl (wq_notL p59) ?_
  refine wq_aload_n rfl rfl rfl ?_
  refine xm_getR (v := 36893488147419103291) (q := 56) rfl rfl (by decide) (by decide) (T60.r (k := 56) 3 58 rfl (by decide) rfl) ?_
  refine wq_iload rfl rfl (T8.i (k := 59) 3 rfl (by decide) rfl) ?_
  obtain ⟨y61, e62, h⟩ := od_bindE h
  refine wd_virtN (q := 59) (y := y61) (as := [36893488147419103291, y5.2 59 3]) rfl rfl rfl (by decide) (Nat.le_of_ble_eq_true rfl) (Nat.le_of_ble_eq_true rfl) rfl (Nat.le_of_ble_eq_true rfl) rfl (dkT_168 T60 (T8.i (k := 59) 3 rfl (by decide) rfl) e62) (fun T64 => ?_)
  refine wq_aload_n rfl rfl rfl ?_
  refine wq_iload_n rfl rfl p7 ?_
  refine wq_iload_n rfl rfl p3 ?_
  obtain ⟨y65, e66, h⟩ := od_bindE h
  refine wd_virtN (q := 56) (y := y65) (as := [36893488147419103288, y5.1, y1.1]) rfl rfl rfl (by decide) (Nat.le_of_ble_eq_true rfl) (Nat.le_of_ble_eq_true rfl) rfl (Nat.le_of_ble_eq_true rfl) rfl (dkT_120 T64 p7 p3 e66) (fun T68 => ?_)
  exact wq_ret rfl (wkON h T68)
