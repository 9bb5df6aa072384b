/-! ===== 74g: the reference: methods as functions on memories (by wip/whole2/law73.py, dc.py): 40 X12_set, 39 X12_fill, 43 X12_object, 44 X12_how ===== -/
def dk_40_178 (n : Nat) (F : wq_F) (v5 : Nat) (v6 : Nat) (v8 : Nat) : Option (Nat × wq_F) :=
  od_g (v8 < 3001) <|
  od_up F 47 v8 v5 fun F2 =>
  od_g (v8 < 3001) <|
  od_up F2 48 v8 ((v6 - 18446744073709551616)) fun F6 =>
  some (1, F6)
theorem dk_40_178T {d n : Nat} : ∀ ⦃u1 : Nat⦄ ⦃u2 : Nat⦄ ⦃u3 : Nat⦄ ⦃u9 : Nat⦄ ⦃F : wq_F⦄ (hT : wm_T F) ⦃v5 : Nat⦄ (hv5 : v5 < 4294967296) ⦃v6 : Nat⦄ (hv6 : ev_isL v6 = true) ⦃v8 : Nat⦄ (hv8 : v8 < 4294967296) (hu1 : ev_isL u1 = false) (hu2 : ev_isL u2 = false) (hu9 : ev_isL u9 = false) ⦃x : Nat × wq_F⦄ (h : dk_40_178 n F v5 v6 v8 = some x), wq (wq_cf (d + 2)) (ev_un al_mX12_set.2.2.2.2) (some .boolean) 178 [36893488147419103232, u1, u2, u3, 73786976294838206464, v5, v6, 73786976294838206464, v8, u9] [] wm_sh F 0 0 (wkZ wm_T wm_sh x) := by
  intro u1 u2 u3 u9 F hT v5 hv5 v6 hv6 v8 hv8 hu1 hu2 hu9 x h
  unfold dk_40_178 at h
  refine wq_aload_n rfl rfl rfl ?_
  refine wm_getR (v := 36893488147419103279) rfl (by decide) (hT.r 81 46 rfl) ?_
  refine wq_iload rfl rfl hv8 ?_
  refine wq_iload rfl rfl hv5 ?_
  obtain ⟨g1, h⟩ := od_gE h
  obtain ⟨F2, e3, h⟩ := od_upE h
  refine wd_iastore (q := 47) (n := 3001) rfl rfl (by decide) g1 (by decide) hv5 e3 ?_
  have T4 : wm_T F2 := wd_T e3 (hT.ua (k := 47) (kd := 1000) (n := 3001) (i := v8) (v := v5) rfl (by decide) g1 (show v5 < 4294967296 from hv5))
  refine wq_aload_n rfl rfl rfl ?_
  refine wm_getR (v := 36893488147419103280) rfl (by decide) (T4.r 82 47 rfl) ?_
  refine wq_iload rfl rfl hv8 ?_
  refine wq_lload rfl rfl hv6 ?_
  obtain ⟨g5, h⟩ := od_gE h
  obtain ⟨F6, e7, h⟩ := od_upE h
  refine wd_lastore (q := 48) (n := 3001) rfl rfl (by decide) g5 (by decide) hv6 e7 ?_
  have T8 : wm_T F6 := wd_T e7 (T4.ua (k := 48) (kd := 1010) (n := 3001) (i := v8) (v := (v6 - 18446744073709551616)) rfl (by decide) g5 (wm_subL hv6))
  refine wq_iconst rfl rfl ?_
  exact wq_iret rfl (wm_zlt (by decide)) (Nat.blt_eq.mpr (by decide)) (wkOZ h T8 (by decide))
def dk_40_21 (n : Nat) (F : wq_F) (v1 : Nat) (v2 : Nat) (v3 : Nat) (v5 : Nat) (v6 : Nat) (v8 : Nat) : Option (Nat × wq_F) :=
  if 2147483648 ≤ v8 then
    if (F 0 89) = 3000 then
      od_up F 0 143 4 fun F61 =>
      some (0, F61)
    else
      od_let (((F 0 88) + (4294967296 - 1)) % 4294967296) fun y3 =>
      od_up F 0 88 y3 fun F6 =>
      od_g (F6 0 88 < 3001) <|
      od_up F6 0 89 (((F6 0 89) + 1) % 4294967296) fun F10 =>
      (dk_42 F10 v1 v2 v3).bind fun y13 =>
      od_g (F6 53 (F6 0 88) < 3001) <|
      od_up y13.2 49 (F6 53 (F6 0 88)) v1 fun F18 =>
      od_g (F6 53 (F6 0 88) < 3001) <|
      od_up F18 45 (F6 53 (F6 0 88)) v2 fun F22 =>
      od_g (F6 53 (F6 0 88) < 3001) <|
      od_up F22 46 (F6 53 (F6 0 88)) ((v3 - 18446744073709551616)) fun F26 =>
      od_g (y13.1 < 4096) <|
      od_g (F6 53 (F6 0 88) < 3001) <|
      od_up F26 51 (F6 53 (F6 0 88)) (F26 52 y13.1) fun F31 =>
      od_g (y13.1 < 4096) <|
      od_up F31 52 y13.1 (F6 53 (F6 0 88)) fun F35 =>
      od_g (F6 53 (F6 0 88) < 3001) <|
      od_up F35 50 (F6 53 (F6 0 88)) 4294967295 fun F39 =>
      od_g (v1 < 2002) <|
      if 2147483648 ≤ (F39 40 v1) then
        od_g (v1 < 2002) <|
        od_up F39 40 v1 (F6 53 (F6 0 88)) fun F54 =>
        od_g (v1 < 2002) <|
        od_up F54 41 v1 (F6 53 (F6 0 88)) fun F58 =>
        dk_40_178 n F58 v5 v6 (F6 53 (F6 0 88))
      else
        od_g (v1 < 2002) <|
        od_g (F39 41 v1 < 3001) <|
        od_up F39 50 (F39 41 v1) (F6 53 (F6 0 88)) fun F46 =>
        od_g (v1 < 2002) <|
        od_up F46 41 v1 (F6 53 (F6 0 88)) fun F50 =>
        dk_40_178 n F50 v5 v6 (F6 53 (F6 0 88))
  else
    dk_40_178 n F v5 v6 v8
theorem dk_40_21T {d n : Nat} : ∀ ⦃F : wq_F⦄ (hT : wm_T F) ⦃v1 : Nat⦄ (hv1 : v1 < 4294967296) ⦃v2 : Nat⦄ (hv2 : v2 < 4294967296) ⦃v3 : Nat⦄ (hv3 : ev_isL v3 = true) ⦃v5 : Nat⦄ (hv5 : v5 < 4294967296) ⦃v6 : Nat⦄ (hv6 : ev_isL v6 = true) ⦃v8 : Nat⦄ (hv8 : v8 < 4294967296) ⦃x : Nat × wq_F⦄ (h : dk_40_21 n F v1 v2 v3 v5 v6 v8 = some x), wq (wq_cf (d + 2)) (ev_un al_mX12_set.2.2.2.2) (some .boolean) 21 [36893488147419103232, v1, v2, v3, 73786976294838206464, v5, v6, 73786976294838206464, v8, 73786976294838206464] [] wm_sh F 0 0 (wkZ wm_T wm_sh x) := by
  intro F hT v1 hv1 v2 hv2 v3 hv3 v5 hv5 v6 hv6 v8 hv8 x h
  unfold dk_40_21 at h
  refine wq_iload rfl rfl hv8 ?_
  refine wq_if_ge rfl rfl hv8 (fun h1 => ?_) (fun h1 => ?_)
  · replace h := od_neg h (Nat.not_le.mpr h1)
    exact dk_40_178T hT hv5 hv6 hv8 (wq_notL hv1) (wq_notL hv2) rfl h
  · replace h := od_pos h h1
    refine wq_aload_n rfl rfl rfl ?_
    refine wm_getI rfl (by decide) ?_
    refine wq_sipush rfl rfl ?_
    refine wq_ic_ne rfl rfl (hT.i 89 rfl) (by decide) (fun h2 => ?_) (fun h2 => ?_)
    · replace h := od_neg h h2
      refine wq_aload_n rfl rfl rfl ?_
      refine wq_dup rfl rfl ?_
      refine wm_getI rfl (by decide) ?_
      refine wq_iconst rfl rfl ?_
      refine wq_isubZ rfl (hT.i 88 rfl) (wm_zlt (by decide)) (z := ((F 0 88) + (4294967296 - 1)) % 4294967296) rfl ?_
      obtain ⟨y3, e4, h⟩ := od_letE h
      refine wq_top e4.symm ?_
      have p5 : y3 < 4294967296 := wd_lt e4 (Nat.mod_lt _ (by decide))
      obtain ⟨F6, e7, h⟩ := od_upE h
      refine wmE_put rfl (by decide) (wq_I p5) e7 ?_
      have T8 : wm_T F6 := wd_T e7 (hT.uf (f := 88) (c := 0) (v := y3) rfl (show y3 < 4294967296 from p5))
      refine wq_aload_n rfl rfl rfl ?_
      refine wm_getR (v := 36893488147419103285) rfl (by decide) (T8.r 87 52 rfl) ?_
      refine wq_aload_n rfl rfl rfl ?_
      refine wm_getI rfl (by decide) ?_
      obtain ⟨g9, h⟩ := od_gE h
      refine wq_iaload (q := 53) (n := 3001) rfl rfl (by decide) g9 (by decide) ?_
      refine wq_istore rfl (T8.ai (k := 53) rfl g9) (Nat.le_of_ble_eq_true rfl) (Or.inr ⟨_, rfl, rfl⟩) (L' := [36893488147419103232, v1, v2, v3, 73786976294838206464, v5, v6, 73786976294838206464, F6 53 (F6 0 88), 73786976294838206464]) rfl ?_
      refine wq_aload_n rfl rfl rfl ?_
      refine wq_dup rfl rfl ?_
      refine wm_getI rfl (by decide) ?_
      refine wq_iconst rfl rfl ?_
      refine wq_iaddZ rfl (T8.i 89 rfl) (wm_zlt (by decide)) (z := ((F6 0 89) + 1) % 4294967296) rfl ?_
      obtain ⟨F10, e11, h⟩ := od_upE h
      refine wmE_put rfl (by decide) (wq_I (Nat.mod_lt _ (by decide))) e11 ?_
      have T12 : wm_T F10 := wd_T e11 (T8.uf (f := 89) (c := 0) (v := ((F6 0 89) + 1) % 4294967296) rfl (show ((F6 0 89) + 1) % 4294967296 < 4294967296 from (Nat.mod_lt _ (by decide))))
      refine wq_iload_n rfl rfl hv1 ?_
      refine wq_iload_n rfl rfl hv2 ?_
      refine wq_lload_n rfl rfl hv3 ?_
      obtain ⟨y13, e14, h⟩ := od_bindE h
      refine wd_statI (y := y13) (as := [v1, v2, v3]) rfl (by decide) (Nat.le_of_ble_eq_true rfl) rfl (Nat.le_of_ble_eq_true rfl) rfl (dkT_42 T12 hv1 hv2 hv3 e14) (fun p15 T16 => ?_)
      refine wq_istore rfl p15 (Nat.le_of_ble_eq_true rfl) (Or.inr ⟨_, rfl, (wq_notL (T8.ai (k := 53) rfl g9))⟩) (L' := [36893488147419103232, v1, v2, v3, 73786976294838206464, v5, v6, 73786976294838206464, F6 53 (F6 0 88), y13.1]) rfl ?_
      refine wq_aload_n rfl rfl rfl ?_
      refine wm_getR (v := 36893488147419103281) rfl (by decide) (T16.r 83 48 rfl) ?_
      refine wq_iload rfl rfl (T8.ai (k := 53) rfl g9) ?_
      refine wq_iload_n rfl rfl hv1 ?_
      obtain ⟨g17, h⟩ := od_gE h
      obtain ⟨F18, e19, h⟩ := od_upE h
      refine wd_iastore (q := 49) (n := 3001) rfl rfl (by decide) g17 (by decide) hv1 e19 ?_
      have T20 : wm_T F18 := wd_T e19 (T16.ua (k := 49) (kd := 1000) (n := 3001) (i := F6 53 (F6 0 88)) (v := v1) rfl (by decide) g17 (show v1 < 4294967296 from hv1))
      refine wq_aload_n rfl rfl rfl ?_
      refine wm_getR (v := 36893488147419103277) rfl (by decide) (T20.r 79 44 rfl) ?_
      refine wq_iload rfl rfl (T8.ai (k := 53) rfl g9) ?_
      refine wq_iload_n rfl rfl hv2 ?_
      obtain ⟨g21, h⟩ := od_gE h
      obtain ⟨F22, e23, h⟩ := od_upE h
      refine wd_iastore (q := 45) (n := 3001) rfl rfl (by decide) g21 (by decide) hv2 e23 ?_
      have T24 : wm_T F22 := wd_T e23 (T20.ua (k := 45) (kd := 1000) (n := 3001) (i := F6 53 (F6 0 88)) (v := v2) rfl (by decide) g21 (show v2 < 4294967296 from hv2))
      refine wq_aload_n rfl rfl rfl ?_
      refine wm_getR (v := 36893488147419103278) rfl (by decide) (T24.r 80 45 rfl) ?_
      refine wq_iload rfl rfl (T8.ai (k := 53) rfl g9) ?_
      refine wq_lload_n rfl rfl hv3 ?_
      obtain ⟨g25, h⟩ := od_gE h
      obtain ⟨F26, e27, h⟩ := od_upE h
      refine wd_lastore (q := 46) (n := 3001) rfl rfl (by decide) g25 (by decide) hv3 e27 ?_
      have T28 : wm_T F26 := wd_T e27 (T24.ua (k := 46) (kd := 1010) (n := 3001) (i := F6 53 (F6 0 88)) (v := (v3 - 18446744073709551616)) rfl (by decide) g25 (wm_subL hv3))
      refine wq_aload_n rfl rfl rfl ?_
      refine wm_getR (v := 36893488147419103283) rfl (by decide) (T28.r 85 50 rfl) ?_
      refine wq_iload rfl rfl (T8.ai (k := 53) rfl g9) ?_
      refine wq_aload_n rfl rfl rfl ?_
      refine wm_getR (v := 36893488147419103284) rfl (by decide) (T28.r 86 51 rfl) ?_
      refine wq_iload rfl rfl p15 ?_
      obtain ⟨g29, h⟩ := od_gE h
      refine wq_iaload (q := 52) (n := 4096) rfl rfl (by decide) g29 (by decide) ?_
      obtain ⟨g30, h⟩ := od_gE h
      obtain ⟨F31, e32, h⟩ := od_upE h
      refine wd_iastore (q := 51) (n := 3001) rfl rfl (by decide) g30 (by decide) (T28.ai (k := 52) rfl g29) e32 ?_
      have T33 : wm_T F31 := wd_T e32 (T28.ua (k := 51) (kd := 1000) (n := 3001) (i := F6 53 (F6 0 88)) (v := F26 52 y13.1) rfl (by decide) g30 (show F26 52 y13.1 < 4294967296 from (T28.ai (k := 52) rfl g29)))
      refine wq_aload_n rfl rfl rfl ?_
      refine wm_getR (v := 36893488147419103284) rfl (by decide) (T33.r 86 51 rfl) ?_
      refine wq_iload rfl rfl p15 ?_
      refine wq_iload rfl rfl (T8.ai (k := 53) rfl g9) ?_
      obtain ⟨g34, h⟩ := od_gE h
      obtain ⟨F35, e36, h⟩ := od_upE h
      refine wd_iastore (q := 52) (n := 4096) rfl rfl (by decide) g34 (by decide) (T8.ai (k := 53) rfl g9) e36 ?_
      have T37 : wm_T F35 := wd_T e36 (T33.ua (k := 52) (kd := 1000) (n := 4096) (i := y13.1) (v := F6 53 (F6 0 88)) rfl (by decide) g34 (show F6 53 (F6 0 88) < 4294967296 from (T8.ai (k := 53) rfl g9)))
      refine wq_aload_n rfl rfl rfl ?_
      refine wm_getR (v := 36893488147419103282) rfl (by decide) (T37.r 84 49 rfl) ?_
      refine wq_iload rfl rfl (T8.ai (k := 53) rfl g9) ?_
      refine wq_iconst rfl rfl ?_
      obtain ⟨g38, h⟩ := od_gE h
      obtain ⟨F39, e40, h⟩ := od_upE h
      refine wd_iastore (q := 50) (n := 3001) rfl rfl (by decide) g38 (by decide) (by decide) e40 ?_
      have T41 : wm_T F39 := wd_T e40 (T37.ua (k := 50) (kd := 1000) (n := 3001) (i := F6 53 (F6 0 88)) (v := 4294967295) rfl (by decide) g38 (show 4294967295 < 4294967296 from (by decide)))
      refine wq_aload_n rfl rfl rfl ?_
      refine wm_getR (v := 36893488147419103272) rfl (by decide) (T41.r 72 39 rfl) ?_
      refine wq_iload_n rfl rfl hv1 ?_
      obtain ⟨g42, h⟩ := od_gE h
      refine wq_iaload (q := 40) (n := 2002) rfl rfl (by decide) g42 (by decide) ?_
      refine wq_if_ge rfl rfl (T41.ai (k := 40) rfl g42) (fun h43 => ?_) (fun h43 => ?_)
      · replace h := od_neg h (Nat.not_le.mpr h43)
        refine wq_aload_n rfl rfl rfl ?_
        refine wm_getR (v := 36893488147419103282) rfl (by decide) (T41.r 84 49 rfl) ?_
        refine wq_aload_n rfl rfl rfl ?_
        refine wm_getR (v := 36893488147419103273) rfl (by decide) (T41.r 73 40 rfl) ?_
        refine wq_iload_n rfl rfl hv1 ?_
        obtain ⟨g44, h⟩ := od_gE h
        refine wq_iaload (q := 41) (n := 2002) rfl rfl (by decide) g44 (by decide) ?_
        refine wq_iload rfl rfl (T8.ai (k := 53) rfl g9) ?_
        obtain ⟨g45, h⟩ := od_gE h
        obtain ⟨F46, e47, h⟩ := od_upE h
        refine wd_iastore (q := 50) (n := 3001) rfl rfl (by decide) g45 (by decide) (T8.ai (k := 53) rfl g9) e47 ?_
        have T48 : wm_T F46 := wd_T e47 (T41.ua (k := 50) (kd := 1000) (n := 3001) (i := F39 41 v1) (v := F6 53 (F6 0 88)) rfl (by decide) g45 (show F6 53 (F6 0 88) < 4294967296 from (T8.ai (k := 53) rfl g9)))
        refine wq_aload_n rfl rfl rfl ?_
        refine wm_getR (v := 36893488147419103273) rfl (by decide) (T48.r 73 40 rfl) ?_
        refine wq_iload_n rfl rfl hv1 ?_
        refine wq_iload rfl rfl (T8.ai (k := 53) rfl g9) ?_
        obtain ⟨g49, h⟩ := od_gE h
        obtain ⟨F50, e51, h⟩ := od_upE h
        refine wd_iastore (q := 41) (n := 2002) rfl rfl (by decide) g49 (by decide) (T8.ai (k := 53) rfl g9) e51 ?_
        have T52 : wm_T F50 := wd_T e51 (T48.ua (k := 41) (kd := 1000) (n := 2002) (i := v1) (v := F6 53 (F6 0 88)) rfl (by decide) g49 (show F6 53 (F6 0 88) < 4294967296 from (T8.ai (k := 53) rfl g9)))
        exact dk_40_178T T52 hv5 hv6 (T8.ai (k := 53) rfl g9) (wq_notL hv1) (wq_notL hv2) (wq_notL p15) h
      · replace h := od_pos h h43
        refine wq_aload_n rfl rfl rfl ?_
        refine wm_getR (v := 36893488147419103272) rfl (by decide) (T41.r 72 39 rfl) ?_
        refine wq_iload_n rfl rfl hv1 ?_
        refine wq_iload rfl rfl (T8.ai (k := 53) rfl g9) ?_
        obtain ⟨g53, h⟩ := od_gE h
        obtain ⟨F54, e55, h⟩ := od_upE h
        refine wd_iastore (q := 40) (n := 2002) rfl rfl (by decide) g53 (by decide) (T8.ai (k := 53) rfl g9) e55 ?_
        have T56 : wm_T F54 := wd_T e55 (T41.ua (k := 40) (kd := 1000) (n := 2002) (i := v1) (v := F6 53 (F6 0 88)) rfl (by decide) g53 (show F6 53 (F6 0 88) < 4294967296 from (T8.ai (k := 53) rfl g9)))
        refine wq_goto rfl rfl ?_
        refine wq_aload_n rfl rfl rfl ?_
        refine wm_getR (v := 36893488147419103273) rfl (by decide) (T56.r 73 40 rfl) ?_
        refine wq_iload_n rfl rfl hv1 ?_
        refine wq_iload rfl rfl (T8.ai (k := 53) rfl g9) ?_
        obtain ⟨g57, h⟩ := od_gE h
        obtain ⟨F58, e59, h⟩ := od_upE h
        refine wd_iastore (q := 41) (n := 2002) rfl rfl (by decide) g57 (by decide) (T8.ai (k := 53) rfl g9) e59 ?_
        have T60 : wm_T F58 := wd_T e59 (T56.ua (k := 41) (kd := 1000) (n := 2002) (i := v1) (v := F6 53 (F6 0 88)) rfl (by decide) g57 (show F6 53 (F6 0 88) < 4294967296 from (T8.ai (k := 53) rfl g9)))
        exact dk_40_178T T60 hv5 hv6 (T8.ai (k := 53) rfl g9) (wq_notL hv1) (wq_notL hv2) (wq_notL p15) h
    · replace h := od_pos h h2
      refine wq_aload_n rfl rfl rfl ?_
      refine wq_iconst rfl rfl ?_
      obtain ⟨F61, e62, h⟩ := od_upE h
      refine wmE_put rfl (by decide) (wq_I (by decide)) e62 ?_
      have T63 : wm_T F61 := wd_T e62 (hT.uf (f := 143) (c := 0) (v := 4) rfl (show 4 < 4294967296 from (by decide)))
      refine wq_iconst rfl rfl ?_
      exact wq_iret rfl (wm_zlt (by decide)) (Nat.blt_eq.mpr (by decide)) (wkOZ h T63 (by decide))
/-- X12_set -/
def dk_40 (n : Nat) (F : wq_F) (a0 : Nat) (a1 : Nat) (a2 : Nat) (a3 : Nat) (a4 : Nat) : Option (Nat × wq_F) :=
  (dk_41 n F a0 a1 a2).bind fun y1 =>
  if 2147483648 ≤ y1.1 then
    if a3 = 0 then
      some (1, y1.2)
    else
      dk_40_21 n y1.2 a0 a1 a2 a3 a4 y1.1
  else
    dk_40_21 n y1.2 a0 a1 a2 a3 a4 y1.1
theorem dkT_40 {d n : Nat} {F : wq_F} (hT : wm_T F) {a0 : Nat} (ha0 : a0 < 4294967296) {a1 : Nat} (ha1 : a1 < 4294967296) {a2 : Nat} (ha2 : ev_isL a2 = true) {a3 : Nat} (ha3 : a3 < 4294967296) {a4 : Nat} (ha4 : ev_isL a4 = true) {x : Nat × wq_F} (h : dk_40 n F a0 a1 a2 a3 a4 = some x) : mq (d + 2 + 1) 40 [36893488147419103232, a0, a1, a2, a3, a4] wm_sh F (wkZ wm_T wm_sh x) := by
  have e : ev_ent [36893488147419103232, a0, a1, a2, a3, a4] = [36893488147419103232, a0, a1, a2, 73786976294838206464, a3, a4, 73786976294838206464] := by
    show 36893488147419103232 :: ev_ent [a0, a1, a2, a3, a4] = _
    rw [wm_entI ha0, wm_entI ha1, wd_entL ha2, wm_entI ha3, wd_entL ha4]
    rfl
  refine mq_of (maxL := 10) (rt := (some .boolean)) (code := (ev_un al_mX12_set.2.2.2.2)) (L := [36893488147419103232, a0, a1, a2, 73786976294838206464, a3, a4, 73786976294838206464, 73786976294838206464, 73786976294838206464]) rfl (by rw [e]; exact Nat.le_of_ble_eq_true rfl) (by rw [e]; rfl) ?_
  unfold dk_40 at h
  refine wq_aload_n rfl rfl rfl ?_
  refine wq_iload_n rfl rfl ha0 ?_
  refine wq_iload_n rfl rfl ha1 ?_
  refine wq_lload_n rfl rfl ha2 ?_
  obtain ⟨y1, e2, h⟩ := od_bindE h
  refine wd_virtI (q := 0) (y := y1) (as := [36893488147419103232, a0, a1, a2]) rfl rfl rfl (by decide) (Nat.le_of_ble_eq_true rfl) (Nat.le_of_ble_eq_true rfl) rfl (Nat.le_of_ble_eq_true rfl) rfl (dkT_41 hT ha0 ha1 ha2 e2) (fun p3 T4 => ?_)
  refine wq_istore rfl p3 (Nat.le_of_ble_eq_true rfl) (Or.inr ⟨_, rfl, rfl⟩) (L' := [36893488147419103232, a0, a1, a2, 73786976294838206464, a3, a4, 73786976294838206464, y1.1, 73786976294838206464]) rfl ?_
  refine wq_iload rfl rfl p3 ?_
  refine wq_if_ge rfl rfl p3 (fun h5 => ?_) (fun h5 => ?_)
  · replace h := od_neg h (Nat.not_le.mpr h5)
    exact dk_40_21T T4 ha0 ha1 ha2 ha3 ha4 p3 h
  · replace h := od_pos h h5
    refine wq_iload rfl rfl ha3 ?_
    refine wq_if_ne rfl rfl ha3 (fun h6 => ?_) (fun h6 => ?_)
    · replace h := od_neg h h6
      exact dk_40_21T T4 ha0 ha1 ha2 ha3 ha4 p3 h
    · replace h := od_pos h h6
      refine wq_iconst rfl rfl ?_
      exact wq_iret rfl (wm_zlt (by decide)) (Nat.blt_eq.mpr (by decide)) (wkOZ h T4 (by decide))
/-- X12_fill -/
def dk_39 (n : Nat) (F : wq_F) (a0 : Nat) (a1 : Nat) (a2 : Nat) (a3 : Nat) : Option (Nat × wq_F) :=
  (dk_40 n F a0 3 (ev_oI2l a1) a2 a3).bind fun y1 =>
  some (0, y1.2)
theorem dkT_39 {d n : Nat} {F : wq_F} (hT : wm_T F) {a0 : Nat} (ha0 : a0 < 4294967296) {a1 : Nat} (ha1 : a1 < 4294967296) {a2 : Nat} (ha2 : a2 < 4294967296) {a3 : Nat} (ha3 : ev_isL a3 = true) {x : Nat × wq_F} (h : dk_39 n F a0 a1 a2 a3 = some x) : mq (d + 3 + 1) 39 [36893488147419103232, a0, a1, a2, a3] wm_sh F (wkN wm_T wm_sh x) := by
  have e : ev_ent [36893488147419103232, a0, a1, a2, a3] = [36893488147419103232, a0, a1, a2, a3, 73786976294838206464] := by
    show 36893488147419103232 :: ev_ent [a0, a1, a2, a3] = _
    rw [wm_entI ha0, wm_entI ha1, wm_entI ha2, wd_entL ha3]
    rfl
  refine mq_of (maxL := 7) (rt := none) (code := (ev_un al_mX12_fill.2.2.2.2)) (L := [36893488147419103232, a0, a1, a2, a3, 73786976294838206464, 73786976294838206464]) rfl (by rw [e]; exact Nat.le_of_ble_eq_true rfl) (by rw [e]; rfl) ?_
  unfold dk_39 at h
  refine wq_aload_n rfl rfl rfl ?_
  refine wq_iload_n rfl rfl ha0 ?_
  refine wq_iconst rfl rfl ?_
  refine wq_iload_n rfl rfl ha1 ?_
  refine wq_i2l rfl ha1 ?_
  refine wq_iload_n rfl rfl ha2 ?_
  refine wq_lload rfl rfl ha3 ?_
  obtain ⟨y1, e2, h⟩ := od_bindE h
  refine wd_virtZ (q := 0) (y := y1) (as := [36893488147419103232, a0, 3, ev_oI2l a1, a2, a3]) rfl rfl rfl (by decide) (Nat.le_of_ble_eq_true rfl) (Nat.le_of_ble_eq_true rfl) rfl (Nat.le_of_ble_eq_true rfl) rfl (dkT_40 hT ha0 (by decide) (wq_i2l_L ha1) ha2 ha3 e2) (fun p3 T4 => ?_)
  refine wq_istore rfl (wm_zlt p3) (Nat.le_of_ble_eq_true rfl) (Or.inr ⟨_, rfl, rfl⟩) (L' := [36893488147419103232, a0, a1, a2, a3, 73786976294838206464, y1.1]) rfl ?_
  exact wq_ret rfl (wkON h T4)
/-- X12_object -/
def dk_43 (F : wq_F) (a0 : Nat) : Option (Nat × wq_F) :=
  if (F 0 77) = 2000 then
    od_up F 0 143 4 fun F25 =>
    some (0, F25)
  else
    od_up F 0 77 (((F 0 77) + 1) % 4294967296) fun F2 =>
    od_g (F2 0 77 < 2002) <|
    od_up F2 38 (F2 0 77) a0 fun F6 =>
    od_g (F6 0 77 < 2002) <|
    od_up F6 39 (F6 0 77) 0 fun F10 =>
    od_g (F10 0 77 < 2002) <|
    od_up F10 40 (F10 0 77) 4294967295 fun F14 =>
    od_g (F14 0 77 < 2002) <|
    od_up F14 41 (F14 0 77) 4294967295 fun F18 =>
    od_g (F18 0 77 < 2002) <|
    od_up F18 42 (F18 0 77) ((18446744073709551616 - 18446744073709551616)) fun F22 =>
    some (F22 0 77, F22)
theorem dkT_43 {d : Nat} {F : wq_F} (hT : wm_T F) {a0 : Nat} (ha0 : a0 < 4294967296) {x : Nat × wq_F} (h : dk_43 F a0 = some x) : mq (d + 0 + 1) 43 [36893488147419103232, a0] wm_sh F (wkI wm_T wm_sh x) := by
  have e : ev_ent [36893488147419103232, a0] = [36893488147419103232, a0] := by
    show 36893488147419103232 :: ev_ent [a0] = _
    rw [wm_entI ha0]
    rfl
  refine mq_of (maxL := 2) (rt := (some .int)) (code := (ev_un al_mX12_object.2.2.2.2)) (L := [36893488147419103232, a0]) rfl (by rw [e]; exact Nat.le_of_ble_eq_true rfl) (by rw [e]; rfl) ?_
  unfold dk_43 at h
  refine wq_aload_n rfl rfl rfl ?_
  refine wm_getI rfl (by decide) ?_
  refine wq_sipush rfl rfl ?_
  refine wq_ic_ne rfl rfl (hT.i 77 rfl) (by decide) (fun h1 => ?_) (fun h1 => ?_)
  · replace h := od_neg h h1
    refine wq_aload_n rfl rfl rfl ?_
    refine wq_dup rfl rfl ?_
    refine wm_getI rfl (by decide) ?_
    refine wq_iconst rfl rfl ?_
    refine wq_iaddZ rfl (hT.i 77 rfl) (wm_zlt (by decide)) (z := ((F 0 77) + 1) % 4294967296) rfl ?_
    obtain ⟨F2, e3, h⟩ := od_upE h
    refine wmE_put rfl (by decide) (wq_I (Nat.mod_lt _ (by decide))) e3 ?_
    have T4 : wm_T F2 := wd_T e3 (hT.uf (f := 77) (c := 0) (v := ((F 0 77) + 1) % 4294967296) rfl (show ((F 0 77) + 1) % 4294967296 < 4294967296 from (Nat.mod_lt _ (by decide))))
    refine wq_aload_n rfl rfl rfl ?_
    refine wm_getR (v := 36893488147419103270) rfl (by decide) (T4.r 70 37 rfl) ?_
    refine wq_aload_n rfl rfl rfl ?_
    refine wm_getI rfl (by decide) ?_
    refine wq_iload_n rfl rfl ha0 ?_
    obtain ⟨g5, h⟩ := od_gE h
    obtain ⟨F6, e7, h⟩ := od_upE h
    refine wd_iastore (q := 38) (n := 2002) rfl rfl (by decide) g5 (by decide) ha0 e7 ?_
    have T8 : wm_T F6 := wd_T e7 (T4.ua (k := 38) (kd := 1000) (n := 2002) (i := F2 0 77) (v := a0) rfl (by decide) g5 (show a0 < 4294967296 from ha0))
    refine wq_aload_n rfl rfl rfl ?_
    refine wm_getR (v := 36893488147419103271) rfl (by decide) (T8.r 71 38 rfl) ?_
    refine wq_aload_n rfl rfl rfl ?_
    refine wm_getI rfl (by decide) ?_
    refine wq_iconst rfl rfl ?_
    obtain ⟨g9, h⟩ := od_gE h
    obtain ⟨F10, e11, h⟩ := od_upE h
    refine wd_iastore (q := 39) (n := 2002) rfl rfl (by decide) g9 (by decide) (wm_zlt (by decide)) e11 ?_
    have T12 : wm_T F10 := wd_T e11 (T8.ua (k := 39) (kd := 1000) (n := 2002) (i := F6 0 77) (v := 0) rfl (by decide) g9 (show 0 < 4294967296 from (wm_zlt (by decide))))
    refine wq_aload_n rfl rfl rfl ?_
    refine wm_getR (v := 36893488147419103272) rfl (by decide) (T12.r 72 39 rfl) ?_
    refine wq_aload_n rfl rfl rfl ?_
    refine wm_getI rfl (by decide) ?_
    refine wq_iconst rfl rfl ?_
    obtain ⟨g13, h⟩ := od_gE h
    obtain ⟨F14, e15, h⟩ := od_upE h
    refine wd_iastore (q := 40) (n := 2002) rfl rfl (by decide) g13 (by decide) (by decide) e15 ?_
    have T16 : wm_T F14 := wd_T e15 (T12.ua (k := 40) (kd := 1000) (n := 2002) (i := F10 0 77) (v := 4294967295) rfl (by decide) g13 (show 4294967295 < 4294967296 from (by decide)))
    refine wq_aload_n rfl rfl rfl ?_
    refine wm_getR (v := 36893488147419103273) rfl (by decide) (T16.r 73 40 rfl) ?_
    refine wq_aload_n rfl rfl rfl ?_
    refine wm_getI rfl (by decide) ?_
    refine wq_iconst rfl rfl ?_
    obtain ⟨g17, h⟩ := od_gE h
    obtain ⟨F18, e19, h⟩ := od_upE h
    refine wd_iastore (q := 41) (n := 2002) rfl rfl (by decide) g17 (by decide) (by decide) e19 ?_
    have T20 : wm_T F18 := wd_T e19 (T16.ua (k := 41) (kd := 1000) (n := 2002) (i := F14 0 77) (v := 4294967295) rfl (by decide) g17 (show 4294967295 < 4294967296 from (by decide)))
    refine wq_aload_n rfl rfl rfl ?_
    refine wm_getR (v := 36893488147419103274) rfl (by decide) (T20.r 74 41 rfl) ?_
    refine wq_aload_n rfl rfl rfl ?_
    refine wm_getI rfl (by decide) ?_
    refine wq_lconst rfl ?_
    obtain ⟨g21, h⟩ := od_gE h
    obtain ⟨F22, e23, h⟩ := od_upE h
    refine wd_lastore (q := 42) (n := 2002) rfl rfl (by decide) g21 (by decide) rfl e23 ?_
    have T24 : wm_T F22 := wd_T e23 (T20.ua (k := 42) (kd := 1010) (n := 2002) (i := F18 0 77) (v := (18446744073709551616 - 18446744073709551616)) rfl (by decide) g21 (wm_subL rfl))
    refine wq_aload_n rfl rfl rfl ?_
    refine wm_getI rfl (by decide) ?_
    exact wq_iret rfl (T24.i 77 rfl) rfl (wkOI h T24 (T24.i 77 rfl))
  · replace h := od_pos h h1
    refine wq_aload_n rfl rfl rfl ?_
    refine wq_iconst rfl rfl ?_
    obtain ⟨F25, e26, h⟩ := od_upE h
    refine wmE_put rfl (by decide) (wq_I (by decide)) e26 ?_
    have T27 : wm_T F25 := wd_T e26 (hT.uf (f := 143) (c := 0) (v := 4) rfl (show 4 < 4294967296 from (by decide)))
    refine wq_iconst rfl rfl ?_
    exact wq_iret rfl (wm_zlt (by decide)) rfl (wkOI h T27 (wm_zlt (by decide)))
/-- X12_how -/
def dk_44 (F : wq_F) (a0 : Nat) (a1 : Nat) (a2 : Nat) : Option (Nat × wq_F) :=
  od_up F 0 130 a0 fun F1 =>
  od_up F1 0 131 a1 fun F4 =>
  od_up F4 0 132 a2 fun F7 =>
  some (0, F7)
theorem dkT_44 {d : Nat} {F : wq_F} (hT : wm_T F) {a0 : Nat} (ha0 : a0 < 4294967296) {a1 : Nat} (ha1 : a1 < 4294967296) {a2 : Nat} (ha2 : a2 < 4294967296) {x : Nat × wq_F} (h : dk_44 F a0 a1 a2 = some x) : mq (d + 0 + 1) 44 [36893488147419103232, a0, a1, a2] wm_sh F (wkN wm_T wm_sh x) := by
  have e : ev_ent [36893488147419103232, a0, a1, a2] = [36893488147419103232, a0, a1, a2] := by
    show 36893488147419103232 :: ev_ent [a0, a1, a2] = _
    rw [wm_entI ha0, wm_entI ha1, wm_entI ha2]
    rfl
  refine mq_of (maxL := 4) (rt := none) (code := (ev_un al_mX12_how.2.2.2.2)) (L := [36893488147419103232, a0, a1, a2]) rfl (by rw [e]; exact Nat.le_of_ble_eq_true rfl) (by rw [e]; rfl) ?_
  unfold dk_44 at h
  refine wq_aload_n rfl rfl rfl ?_
  refine wq_iload_n rfl rfl ha0 ?_
  obtain ⟨F1, e2, h⟩ := od_upE h
  refine wmE_put rfl (by decide) (wq_I ha0) e2 ?_
  have T3 : wm_T F1 := wd_T e2 (hT.uf (f := 130) (c := 0) (v := a0) rfl (show a0 < 4294967296 from ha0))
  refine wq_aload_n rfl rfl rfl ?_
  refine wq_iload_n rfl rfl ha1 ?_
  obtain ⟨F4, e5, h⟩ := od_upE h
  refine wmE_put rfl (by decide) (wq_I ha1) e5 ?_
  have T6 : wm_T F4 := wd_T e5 (T3.uf (f := 131) (c := 0) (v := a1) rfl (show a1 < 4294967296 from ha1))
  refine wq_aload_n rfl rfl rfl ?_
  refine wq_iload_n rfl rfl ha2 ?_
  obtain ⟨F7, e8, h⟩ := od_upE h
  refine wmE_put rfl (by decide) (wq_I ha2) e8 ?_
  have T9 : wm_T F7 := wd_T e8 (T6.uf (f := 132) (c := 0) (v := a2) rfl (show a2 < 4294967296 from ha2))
  exact wq_ret rfl (wkON h T9)
