/-! ===== a78: the reference's compile, its loop of reading with a fuel of its own (wip/whole2/lawa77.py) ===== -/
def dk_24x_24b (n gg : Nat) (r24 : wq_F → Nat → Option (Nat × wq_F)) (F : wq_F) (v1 : Nat) : Option (Nat × wq_F) :=
  if ev_s v1 < ev_s (F 0 65) then
    if v1 = 29 then
      od_g (v1 < 3000) <|
      od_up F 5 v1 1 fun F36 =>
      od_let ((v1 + 1) % 4294967296) fun y39 =>
      r24 F36 y39
    else
      if v1 = 31 then
        od_g (v1 < 3000) <|
        od_up F 5 v1 1 fun F44 =>
        od_let ((v1 + 1) % 4294967296) fun y47 =>
        r24 F44 y47
      else
        if v1 = 36 then
          od_g (v1 < 3000) <|
          od_up F 5 v1 1 fun F52 =>
          od_let ((v1 + 1) % 4294967296) fun y55 =>
          r24 F52 y55
        else
          if ev_s v1 < ev_s 37 then
            od_g (v1 < 3000) <|
            od_up F 5 v1 0 fun F60 =>
            od_let ((v1 + 1) % 4294967296) fun y63 =>
            r24 F60 y63
          else
            od_g (v1 < 3000) <|
            od_up F 5 v1 1 fun F67 =>
            od_let ((v1 + 1) % 4294967296) fun y70 =>
            r24 F67 y70
  else
    od_up F 0 4 0 fun F2 =>
    (dk_26 n F2).bind fun y5 =>
    (dk_29x n gg y5.2).bind fun y9 =>
    if y9.1 = 0 then
      (dk_196 y9.2 (y9.2 0 5)).bind fun y27 =>
      od_up y27.2 0 6 y27.1 fun F31 =>
      some (ev_oNeg (F31 0 4), F31)
    else
      od_up y9.2 0 15 (y9.2 0 14) fun F14 =>
      od_up F14 0 16 (F14 0 8) fun F17 =>
      od_up F17 0 3 1 fun F20 =>
      (dk_38 n F20).bind fun y23 =>
      some (y23.2 0 34, y23.2)
theorem dk_24x_24bT {d n gg : Nat} {r24 : wq_F → Nat → Option (Nat × wq_F)} (hr24 : ∀ ⦃F : wq_F⦄ (hT : wm_T F) ⦃v1 : Nat⦄ (hv1 : v1 < 4294967296) ⦃x : Nat × wq_F⦄ (h : r24 F v1 = some x), wq (wq_cf (d + 8)) (ev_un al_mX12_compile.2.2.2.2) (some .int) 24 [36893488147419103232, v1] [] wm_sh F 0 0 (wkI wm_T wm_sh x)) : ∀ ⦃F : wq_F⦄ (hT : wm_T F) ⦃v1 : Nat⦄ (hv1 : v1 < 4294967296) ⦃x : Nat × wq_F⦄ (h : dk_24x_24b n gg r24 F v1 = some x), wq (wq_cf (d + 8)) (ev_un al_mX12_compile.2.2.2.2) (some .int) 24 [36893488147419103232, v1] [] wm_sh F 0 0 (wkI wm_T wm_sh x) := by
  intro F hT v1 hv1 x h
  unfold dk_24x_24b at h
  refine wq_iload_n rfl rfl hv1 ?_
  refine wq_aload_n rfl rfl rfl ?_
  refine wm_getI rfl (by decide) ?_
  refine wq_ic_ge rfl rfl hv1 (hT.i 65 rfl) (fun h1 => ?_) (fun h1 => ?_)
  · replace h := od_neg h (Nat.not_lt.mpr h1)
    refine wq_aload_n rfl rfl rfl ?_
    refine wq_iconst rfl rfl ?_
    obtain ⟨F2, e3, h⟩ := od_upE h
    refine wmE_put rfl (by decide) (wq_I (wm_zlt (by decide))) e3 ?_
    have T4 : wm_T F2 := wd_T e3 (hT.uf (f := 4) (c := 0) (v := 0) rfl (show 0 < 4294967296 from (wm_zlt (by decide))))
    refine wq_aload_n rfl rfl rfl ?_
    obtain ⟨y5, e6, h⟩ := od_bindE h
    refine wd_virtN (q := 0) (y := y5) (as := [36893488147419103232]) rfl rfl rfl (by decide) (Nat.le_of_ble_eq_true rfl) (Nat.le_of_ble_eq_true rfl) rfl (Nat.le_of_ble_eq_true rfl) rfl (dkT_26 T4 e6) (fun T8 => ?_)
    refine wq_aload_n rfl rfl rfl ?_
    obtain ⟨y9, e10, h⟩ := od_bindE h
    refine wd_virtZ (q := 0) (y := y9) (as := [36893488147419103232]) rfl rfl rfl (by decide) (Nat.le_of_ble_eq_true rfl) (Nat.le_of_ble_eq_true rfl) rfl (Nat.le_of_ble_eq_true rfl) rfl (dkT_29x T8 e10) (fun p11 T12 => ?_)
    refine wq_if_ne rfl rfl (wm_zlt p11) (fun h13 => ?_) (fun h13 => ?_)
    · replace h := od_neg h h13
      refine wq_aload_n rfl rfl rfl ?_
      refine wq_aload_n rfl rfl rfl ?_
      refine wm_getI rfl (by decide) ?_
      obtain ⟨F14, e15, h⟩ := od_upE h
      refine wmE_put rfl (by decide) (wq_I (T12.i 14 rfl)) e15 ?_
      have T16 : wm_T F14 := wd_T e15 (T12.uf (f := 15) (c := 0) (v := y9.2 0 14) rfl (show y9.2 0 14 < 4294967296 from (T12.i 14 rfl)))
      refine wq_aload_n rfl rfl rfl ?_
      refine wq_aload_n rfl rfl rfl ?_
      refine wm_getI rfl (by decide) ?_
      obtain ⟨F17, e18, h⟩ := od_upE h
      refine wmE_put rfl (by decide) (wq_I (T16.i 8 rfl)) e18 ?_
      have T19 : wm_T F17 := wd_T e18 (T16.uf (f := 16) (c := 0) (v := F14 0 8) rfl (show F14 0 8 < 4294967296 from (T16.i 8 rfl)))
      refine wq_aload_n rfl rfl rfl ?_
      refine wq_iconst rfl rfl ?_
      obtain ⟨F20, e21, h⟩ := od_upE h
      refine wmE_put rfl (by decide) (wm_fitZ (by decide)) e21 ?_
      have T22 : wm_T F20 := wd_T e21 (T19.uf (f := 3) (c := 2) (v := 1) rfl (show 1 < 2 from (by decide)))
      refine wq_aload_n rfl rfl rfl ?_
      obtain ⟨y23, e24, h⟩ := od_bindE h
      refine wd_virtN (q := 0) (y := y23) (as := [36893488147419103232]) rfl rfl rfl (by decide) (Nat.le_of_ble_eq_true rfl) (Nat.le_of_ble_eq_true rfl) rfl (Nat.le_of_ble_eq_true rfl) rfl (dkT_38 T22 e24) (fun T26 => ?_)
      refine wq_aload_n rfl rfl rfl ?_
      refine wm_getI rfl (by decide) ?_
      exact wq_iret rfl (T26.i 34 rfl) rfl (wkOI h T26 (T26.i 34 rfl))
    · replace h := od_pos h h13
      refine wq_aload_n rfl rfl rfl ?_
      refine wq_aload_n rfl rfl rfl ?_
      refine wq_aload_n rfl rfl rfl ?_
      refine wm_getI rfl (by decide) ?_
      obtain ⟨y27, e28, h⟩ := od_bindE h
      refine wd_virtI (q := 0) (y := y27) (as := [36893488147419103232, y9.2 0 5]) rfl rfl rfl (by decide) (Nat.le_of_ble_eq_true rfl) (Nat.le_of_ble_eq_true rfl) rfl (Nat.le_of_ble_eq_true rfl) rfl (dkT_196 T12 (T12.i 5 rfl) e28) (fun p29 T30 => ?_)
      obtain ⟨F31, e32, h⟩ := od_upE h
      refine wmE_put rfl (by decide) (wq_I p29) e32 ?_
      have T33 : wm_T F31 := wd_T e32 (T30.uf (f := 6) (c := 0) (v := y27.1) rfl (show y27.1 < 4294967296 from p29))
      refine wq_aload_n rfl rfl rfl ?_
      refine wm_getI rfl (by decide) ?_
      refine wq_ineg rfl (T33.i 4 rfl) ?_
      exact wq_iret rfl (Nat.mod_lt _ (by decide)) rfl (wkOI h T33 (Nat.mod_lt _ (by decide)))
  · replace h := od_pos h h1
    refine wq_aload_n rfl rfl rfl ?_
    refine wm_getR (v := 36893488147419103237) rfl (by decide) (hT.r 11 4 rfl) ?_
    refine wq_iload_n rfl rfl hv1 ?_
    refine wq_iload_n rfl rfl hv1 ?_
    refine wq_bipush rfl rfl ?_
    refine wq_ic_eq rfl rfl hv1 (by decide) (fun h34 => ?_) (fun h34 => ?_)
    · replace h := od_pos h h34
      refine wq_iconst rfl rfl ?_
      refine wq_goto rfl rfl ?_
      obtain ⟨g35, h⟩ := od_gE h
      obtain ⟨F36, e37, h⟩ := od_upE h
      refine wd_iastore (q := 5) (n := 3000) rfl rfl (by decide) g35 (by decide) (wm_zlt (by decide)) e37 ?_
      have T38 : wm_T F36 := wd_T e37 (hT.ua (k := 5) (kd := 1000) (n := 3000) (i := v1) (v := 1) rfl (by decide) g35 (show 1 < 4294967296 from (wm_zlt (by decide))))
      obtain ⟨y39, e40, h⟩ := od_letE h
      have p41 : y39 < 4294967296 := wd_lt e40 (Nat.mod_lt _ (by decide))
      refine wq_iincZ rfl rfl hv1 (Or.inr ⟨_, rfl, rfl⟩) rfl (z := y39) e40.symm (L' := [36893488147419103232, y39]) rfl ?_
      refine wq_goto rfl rfl ?_
      exact hr24 T38 p41 h
    · replace h := od_neg h h34
      refine wq_iload_n rfl rfl hv1 ?_
      refine wq_bipush rfl rfl ?_
      refine wq_ic_eq rfl rfl hv1 (by decide) (fun h42 => ?_) (fun h42 => ?_)
      · replace h := od_pos h h42
        refine wq_iconst rfl rfl ?_
        refine wq_goto rfl rfl ?_
        obtain ⟨g43, h⟩ := od_gE h
        obtain ⟨F44, e45, h⟩ := od_upE h
        refine wd_iastore (q := 5) (n := 3000) rfl rfl (by decide) g43 (by decide) (wm_zlt (by decide)) e45 ?_
        have T46 : wm_T F44 := wd_T e45 (hT.ua (k := 5) (kd := 1000) (n := 3000) (i := v1) (v := 1) rfl (by decide) g43 (show 1 < 4294967296 from (wm_zlt (by decide))))
        obtain ⟨y47, e48, h⟩ := od_letE h
        have p49 : y47 < 4294967296 := wd_lt e48 (Nat.mod_lt _ (by decide))
        refine wq_iincZ rfl rfl hv1 (Or.inr ⟨_, rfl, rfl⟩) rfl (z := y47) e48.symm (L' := [36893488147419103232, y47]) rfl ?_
        refine wq_goto rfl rfl ?_
        exact hr24 T46 p49 h
      · replace h := od_neg h h42
        refine wq_iload_n rfl rfl hv1 ?_
        refine wq_bipush rfl rfl ?_
        refine wq_ic_eq rfl rfl hv1 (by decide) (fun h50 => ?_) (fun h50 => ?_)
        · replace h := od_pos h h50
          refine wq_iconst rfl rfl ?_
          refine wq_goto rfl rfl ?_
          obtain ⟨g51, h⟩ := od_gE h
          obtain ⟨F52, e53, h⟩ := od_upE h
          refine wd_iastore (q := 5) (n := 3000) rfl rfl (by decide) g51 (by decide) (wm_zlt (by decide)) e53 ?_
          have T54 : wm_T F52 := wd_T e53 (hT.ua (k := 5) (kd := 1000) (n := 3000) (i := v1) (v := 1) rfl (by decide) g51 (show 1 < 4294967296 from (wm_zlt (by decide))))
          obtain ⟨y55, e56, h⟩ := od_letE h
          have p57 : y55 < 4294967296 := wd_lt e56 (Nat.mod_lt _ (by decide))
          refine wq_iincZ rfl rfl hv1 (Or.inr ⟨_, rfl, rfl⟩) rfl (z := y55) e56.symm (L' := [36893488147419103232, y55]) rfl ?_
          refine wq_goto rfl rfl ?_
          exact hr24 T54 p57 h
        · replace h := od_neg h h50
          refine wq_iload_n rfl rfl hv1 ?_
          refine wq_bipush rfl rfl ?_
          refine wq_ic_lt rfl rfl hv1 (by decide) (fun h58 => ?_) (fun h58 => ?_)
          · replace h := od_pos h h58
            refine wq_iconst rfl rfl ?_
            obtain ⟨g59, h⟩ := od_gE h
            obtain ⟨F60, e61, h⟩ := od_upE h
            refine wd_iastore (q := 5) (n := 3000) rfl rfl (by decide) g59 (by decide) (wm_zlt (by decide)) e61 ?_
            have T62 : wm_T F60 := wd_T e61 (hT.ua (k := 5) (kd := 1000) (n := 3000) (i := v1) (v := 0) rfl (by decide) g59 (show 0 < 4294967296 from (wm_zlt (by decide))))
            obtain ⟨y63, e64, h⟩ := od_letE h
            have p65 : y63 < 4294967296 := wd_lt e64 (Nat.mod_lt _ (by decide))
            refine wq_iincZ rfl rfl hv1 (Or.inr ⟨_, rfl, rfl⟩) rfl (z := y63) e64.symm (L' := [36893488147419103232, y63]) rfl ?_
            refine wq_goto rfl rfl ?_
            exact hr24 T62 p65 h
          · replace h := od_neg h (Nat.not_lt.mpr h58)
            refine wq_iconst rfl rfl ?_
            refine wq_goto rfl rfl ?_
            obtain ⟨g66, h⟩ := od_gE h
            obtain ⟨F67, e68, h⟩ := od_upE h
            refine wd_iastore (q := 5) (n := 3000) rfl rfl (by decide) g66 (by decide) (wm_zlt (by decide)) e68 ?_
            have T69 : wm_T F67 := wd_T e68 (hT.ua (k := 5) (kd := 1000) (n := 3000) (i := v1) (v := 1) rfl (by decide) g66 (show 1 < 4294967296 from (wm_zlt (by decide))))
            obtain ⟨y70, e71, h⟩ := od_letE h
            have p72 : y70 < 4294967296 := wd_lt e71 (Nat.mod_lt _ (by decide))
            refine wq_iincZ rfl rfl hv1 (Or.inr ⟨_, rfl, rfl⟩) rfl (z := y70) e71.symm (L' := [36893488147419103232, y70]) rfl ?_
            refine wq_goto rfl rfl ?_
            exact hr24 T69 p72 h
def dk_24x_24 (n gg : Nat) : Nat → wq_F → Nat → Option (Nat × wq_F)
  | 0 => fun _ _ => none
  | g + 1 => dk_24x_24b n gg (dk_24x_24 n gg g)
theorem dk_24x_24T {d n gg : Nat} : ∀ g : Nat, ∀ ⦃F : wq_F⦄ (hT : wm_T F) ⦃v1 : Nat⦄ (hv1 : v1 < 4294967296) ⦃x : Nat × wq_F⦄ (h : dk_24x_24 n gg g F v1 = some x), wq (wq_cf (d + 8)) (ev_un al_mX12_compile.2.2.2.2) (some .int) 24 [36893488147419103232, v1] [] wm_sh F 0 0 (wkI wm_T wm_sh x)
  | 0 => by
    intro F hT v1 hv1 x h
    cases h
  | g + 1 => dk_24x_24bT (dk_24x_24T g)
/-- X12_compile -/
def dk_24x (n gg : Nat) (F : wq_F) : Option (Nat × wq_F) :=
  od_up F 0 0 0 fun F1 =>
  od_up F1 0 3 0 fun F4 =>
  (dk_25 n F4 (F4 0 65) (F4 0 66)).bind fun y7 =>
  dk_24x_24 n gg n y7.2 0
theorem dkT_24x {d n gg : Nat} {F : wq_F} (hT : wm_T F) {x : Nat × wq_F} (h : dk_24x n gg F = some x) : mq (d + 8 + 1) 24 [36893488147419103232] wm_sh F (wkI wm_T wm_sh x) := by
  have e : ev_ent [36893488147419103232] = [36893488147419103232] := by
    rfl
  refine mq_of (maxL := 2) (rt := (some .int)) (code := (ev_un al_mX12_compile.2.2.2.2)) (L := [36893488147419103232, 73786976294838206464]) rfl (by rw [e]; exact Nat.le_of_ble_eq_true rfl) (by rw [e]; rfl) ?_
  unfold dk_24x at h
  refine wq_aload_n rfl rfl rfl ?_
  refine wq_iconst rfl rfl ?_
  obtain ⟨F1, e2, h⟩ := od_upE h
  refine wmE_put rfl (by decide) (wq_I (wm_zlt (by decide))) e2 ?_
  have T3 : wm_T F1 := wd_T e2 (hT.uf (f := 0) (c := 0) (v := 0) rfl (show 0 < 4294967296 from (wm_zlt (by decide))))
  refine wq_aload_n rfl rfl rfl ?_
  refine wq_iconst rfl rfl ?_
  obtain ⟨F4, e5, h⟩ := od_upE h
  refine wmE_put rfl (by decide) (wm_fitZ (by decide)) e5 ?_
  have T6 : wm_T F4 := wd_T e5 (T3.uf (f := 3) (c := 2) (v := 0) rfl (show 0 < 2 from (by decide)))
  refine wq_aload_n rfl rfl rfl ?_
  refine wq_aload_n rfl rfl rfl ?_
  refine wm_getI rfl (by decide) ?_
  refine wq_aload_n rfl rfl rfl ?_
  refine wm_getI rfl (by decide) ?_
  obtain ⟨y7, e8, h⟩ := od_bindE h
  refine wd_virtN (q := 0) (y := y7) (as := [36893488147419103232, F4 0 65, F4 0 66]) rfl rfl rfl (by decide) (Nat.le_of_ble_eq_true rfl) (Nat.le_of_ble_eq_true rfl) rfl (Nat.le_of_ble_eq_true rfl) rfl (dkT_25 T6 (T6.i 65 rfl) (T6.i 66 rfl) e8) (fun T10 => ?_)
  refine wq_iconst rfl rfl ?_
  refine wq_istore_n rfl (wm_zlt (by decide)) (Nat.le_of_ble_eq_true rfl) (Or.inr ⟨_, rfl, rfl⟩) (L' := [36893488147419103232, 0]) rfl ?_
  exact dk_24x_24T n T10 (wm_zlt (by decide)) h
