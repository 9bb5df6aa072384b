/-! ===== 74e: the reference: methods as functions on memories (by wip/whole2/law73.py, dc.py): 249 X12_fields, 250 X12_isParting, 251 X12_keyed, 252 X12_positional, 254 X12_parameters, 253 X12_body, 255 X12_bodyEnd, 256 X12_afterChain, 257 X12_assign, 258 X12_then, 260 X12_endIf, 259 X12_afterIf, 261 X12_whileDo, 228 X12_closeLoop, 262 X12_whileEnd, 263 X12_until, 264 X12_untilEnd ===== -/
def dk_249_161 (F : wq_F) (v1 : Nat) (v2 : Nat) (s0 : Nat) : Option (Nat × wq_F) :=
  if s0 = 0 then
    (dk_30 F 14 0 0 0).bind fun y2 =>
    (dk_31 y2.2 18 v1 v2 0).bind fun y6 =>
    (dk_31 y6.2 3 0 0 0).bind fun y10 =>
    some (1, y10.2)
  else
    od_g (F 0 25 < 1502) <|
    od_let (18446744073709551616 + F 11 (F 0 25)) fun y15 =>
    (dk_30 F 5 (ev_oL2i y15) 0 0).bind fun y18 =>
    (dk_31 y18.2 17 0 v1 v2).bind fun y22 =>
    (dk_31 y22.2 3 0 0 0).bind fun y26 =>
    (dk_212 y26.2).bind fun y30 =>
    if y30.1 = 0 then
      some (0, y30.2)
    else
      (dk_212 y30.2).bind fun y35 =>
      if y35.1 = 0 then
        some (0, y35.2)
      else
        some (1, y35.2)
theorem dk_249_161T {d : Nat} : ∀ ⦃u3 : Nat⦄ ⦃u4 : Nat⦄ ⦃F : wq_F⦄ (hT : wm_T F) ⦃v1 : Nat⦄ (hv1 : v1 < 4294967296) ⦃v2 : Nat⦄ (hv2 : v2 < 4294967296) ⦃s0 : Nat⦄ (hs0 : s0 < 2) (hu3 : ev_isL u3 = false) (hu4 : ev_isL u4 = false) ⦃x : Nat × wq_F⦄ (h : dk_249_161 F v1 v2 s0 = some x), wq (wq_cf (d + 2)) (ev_un al_mX12_fields.2.2.2.2) (some .boolean) 161 [36893488147419103232, v1, v2, u3, u4, 73786976294838206464, 73786976294838206464] [s0] wm_sh F 0 0 (wkZ wm_T wm_sh x) := by
  intro u3 u4 F hT v1 hv1 v2 hv2 s0 hs0 hu3 hu4 x h
  unfold dk_249_161 at h
  refine wq_istore rfl (wm_zlt hs0) (Nat.le_of_ble_eq_true rfl) (Or.inr ⟨_, rfl, hu4⟩) (L' := [36893488147419103232, v1, v2, u3, u4, s0, 73786976294838206464]) rfl ?_
  refine wq_iload rfl rfl (wm_zlt hs0) ?_
  refine wq_if_eq rfl rfl (wm_zlt hs0) (fun h1 => ?_) (fun h1 => ?_)
  · replace h := od_pos h h1
    refine wq_aload_n rfl rfl rfl ?_
    refine wq_bipush rfl rfl ?_
    refine wq_iconst rfl rfl ?_
    refine wq_iconst rfl rfl ?_
    refine wq_iconst rfl rfl ?_
    obtain ⟨y2, e3, h⟩ := od_bindE h
    refine wd_virtI (q := 0) (y := y2) (as := [36893488147419103232, 14, 0, 0, 0]) rfl rfl rfl (by decide) (Nat.le_of_ble_eq_true rfl) (Nat.le_of_ble_eq_true rfl) rfl (Nat.le_of_ble_eq_true rfl) rfl (dkT_30 hT (by decide) (wm_zlt (by decide)) (wm_zlt (by decide)) (wm_zlt (by decide)) e3) (fun p4 T5 => ?_)
    refine wq_istore rfl p4 (Nat.le_of_ble_eq_true rfl) (Or.inr ⟨_, rfl, (wq_notL (wm_zlt hs0))⟩) (L' := [36893488147419103232, v1, v2, u3, u4, s0, y2.1]) rfl ?_
    refine wq_aload_n rfl rfl rfl ?_
    refine wq_bipush rfl rfl ?_
    refine wq_iload_n rfl rfl hv1 ?_
    refine wq_iload_n rfl rfl hv2 ?_
    refine wq_iconst rfl rfl ?_
    obtain ⟨y6, e7, h⟩ := od_bindE h
    refine wd_virtN (q := 0) (y := y6) (as := [36893488147419103232, 18, v1, v2, 0]) rfl rfl rfl (by decide) (Nat.le_of_ble_eq_true rfl) (Nat.le_of_ble_eq_true rfl) rfl (Nat.le_of_ble_eq_true rfl) rfl (dkT_31 T5 (by decide) hv1 hv2 (wm_zlt (by decide)) e7) (fun T9 => ?_)
    refine wq_aload_n rfl rfl rfl ?_
    refine wq_iconst rfl rfl ?_
    refine wq_iconst rfl rfl ?_
    refine wq_iconst rfl rfl ?_
    refine wq_iconst rfl rfl ?_
    obtain ⟨y10, e11, h⟩ := od_bindE h
    refine wd_virtN (q := 0) (y := y10) (as := [36893488147419103232, 3, 0, 0, 0]) rfl rfl rfl (by decide) (Nat.le_of_ble_eq_true rfl) (Nat.le_of_ble_eq_true rfl) rfl (Nat.le_of_ble_eq_true rfl) rfl (dkT_31 T9 (by decide) (wm_zlt (by decide)) (wm_zlt (by decide)) (wm_zlt (by decide)) e11) (fun T13 => ?_)
    refine wq_iconst rfl rfl ?_
    exact wq_iret rfl (wm_zlt (by decide)) (Nat.blt_eq.mpr (by decide)) (wkOZ h T13 (by decide))
  · replace h := od_neg h h1
    refine wq_aload_n rfl rfl rfl ?_
    refine wq_iconst rfl rfl ?_
    refine wq_aload_n rfl rfl rfl ?_
    refine wm_getR (v := 36893488147419103243) rfl (by decide) (hT.r 23 10 rfl) ?_
    refine wq_aload_n rfl rfl rfl ?_
    refine wm_getI rfl (by decide) ?_
    obtain ⟨g14, h⟩ := od_gE h
    refine wq_laload (q := 11) (n := 1502) rfl rfl (by decide) g14 (by decide) ?_
    obtain ⟨y15, e16, h⟩ := od_letE h
    refine wq_top e16.symm ?_
    have p17 : ev_isL y15 = true := wd_ge e16 (wm_al_L (hT.al (k := 11) rfl g14))
    refine wq_l2i rfl p17 ?_
    refine wq_iconst rfl rfl ?_
    refine wq_iconst rfl rfl ?_
    obtain ⟨y18, e19, h⟩ := od_bindE h
    refine wd_virtI (q := 0) (y := y18) (as := [36893488147419103232, 5, ev_oL2i y15, 0, 0]) rfl rfl rfl (by decide) (Nat.le_of_ble_eq_true rfl) (Nat.le_of_ble_eq_true rfl) rfl (Nat.le_of_ble_eq_true rfl) rfl (dkT_30 hT (by decide) (Nat.mod_lt _ (by decide)) (wm_zlt (by decide)) (wm_zlt (by decide)) e19) (fun p20 T21 => ?_)
    refine wq_istore rfl p20 (Nat.le_of_ble_eq_true rfl) (Or.inr ⟨_, rfl, (wq_notL (wm_zlt hs0))⟩) (L' := [36893488147419103232, v1, v2, u3, u4, s0, y18.1]) rfl ?_
    refine wq_aload_n rfl rfl rfl ?_
    refine wq_bipush rfl rfl ?_
    refine wq_iconst rfl rfl ?_
    refine wq_iload_n rfl rfl hv1 ?_
    refine wq_iload_n rfl rfl hv2 ?_
    obtain ⟨y22, e23, h⟩ := od_bindE h
    refine wd_virtN (q := 0) (y := y22) (as := [36893488147419103232, 17, 0, v1, v2]) rfl rfl rfl (by decide) (Nat.le_of_ble_eq_true rfl) (Nat.le_of_ble_eq_true rfl) rfl (Nat.le_of_ble_eq_true rfl) rfl (dkT_31 T21 (by decide) (wm_zlt (by decide)) hv1 hv2 e23) (fun T25 => ?_)
    refine wq_aload_n rfl rfl rfl ?_
    refine wq_iconst rfl rfl ?_
    refine wq_iconst rfl rfl ?_
    refine wq_iconst rfl rfl ?_
    refine wq_iconst rfl rfl ?_
    obtain ⟨y26, e27, h⟩ := od_bindE h
    refine wd_virtN (q := 0) (y := y26) (as := [36893488147419103232, 3, 0, 0, 0]) rfl rfl rfl (by decide) (Nat.le_of_ble_eq_true rfl) (Nat.le_of_ble_eq_true rfl) rfl (Nat.le_of_ble_eq_true rfl) rfl (dkT_31 T25 (by decide) (wm_zlt (by decide)) (wm_zlt (by decide)) (wm_zlt (by decide)) e27) (fun T29 => ?_)
    refine wq_aload_n rfl rfl rfl ?_
    obtain ⟨y30, e31, h⟩ := od_bindE h
    refine wd_virtZ (q := 0) (y := y30) (as := [36893488147419103232]) rfl rfl rfl (by decide) (Nat.le_of_ble_eq_true rfl) (Nat.le_of_ble_eq_true rfl) rfl (Nat.le_of_ble_eq_true rfl) rfl (dkT_212 T29 e31) (fun p32 T33 => ?_)
    refine wq_if_eq rfl rfl (wm_zlt p32) (fun h34 => ?_) (fun h34 => ?_)
    · replace h := od_pos h h34
      refine wq_iconst rfl rfl ?_
      exact wq_iret rfl (wm_zlt (by decide)) (Nat.blt_eq.mpr (by decide)) (wkOZ h T33 (by decide))
    · replace h := od_neg h h34
      refine wq_aload_n rfl rfl rfl ?_
      obtain ⟨y35, e36, h⟩ := od_bindE h
      refine wd_virtZ (q := 0) (y := y35) (as := [36893488147419103232]) rfl rfl rfl (by decide) (Nat.le_of_ble_eq_true rfl) (Nat.le_of_ble_eq_true rfl) rfl (Nat.le_of_ble_eq_true rfl) rfl (dkT_212 T33 e36) (fun p37 T38 => ?_)
      refine wq_if_eq rfl rfl (wm_zlt p37) (fun h39 => ?_) (fun h39 => ?_)
      · replace h := od_pos h h39
        refine wq_iconst rfl rfl ?_
        exact wq_iret rfl (wm_zlt (by decide)) (Nat.blt_eq.mpr (by decide)) (wkOZ h T38 (by decide))
      · replace h := od_neg h h39
        refine wq_iconst rfl rfl ?_
        refine wq_goto rfl rfl ?_
        exact wq_iret rfl (wm_zlt (by decide)) (Nat.blt_eq.mpr (by decide)) (wkOZ h T38 (by decide))
def dk_249_42 (F : wq_F) (v1 : Nat) (v2 : Nat) (v3 : Nat) : Option (Nat × wq_F) :=
  if v2 = 30 then
    (dk_210 F).bind fun y43 =>
    (dk_209 y43.2 3 y43.1).bind fun y47 =>
    some (y47.1, y47.2)
  else
    (dk_216 F).bind fun y2 =>
    if y2.1 = 0 then
      some (0, y2.2)
    else
      (dk_215 y2.2).bind fun y7 =>
      if v3 = 0 then
        od_g (y7.2 0 25 < 1502) <|
        if (y7.2 9 (y7.2 0 25)) = 1 then
          if ev_s (y7.2 0 25) < ev_s 1500 then
            od_let (((y7.2 0 25) + 1) % 4294967296) fun y15 =>
            od_g (y15 < 1502) <|
            if (y7.2 9 y15) = 5 then
              od_let (((y7.2 0 25) + 1) % 4294967296) fun y20 =>
              od_g (y20 < 1502) <|
              od_let (18446744073709551616 + y7.2 11 y20) fun y24 =>
              od_let (ev_oCmpL (y24 - 18446744073709551616) (18446744073709551677 - 18446744073709551616)) fun y27 =>
              if y27 = 0 then
                dk_249_161 y7.2 v1 v2 1
              else
                dk_249_161 y7.2 v1 v2 0
            else
              dk_249_161 y7.2 v1 v2 0
          else
            dk_249_161 y7.2 v1 v2 0
        else
          dk_249_161 y7.2 v1 v2 0
      else
        (dk_31 y7.2 16 y7.1 v1 v2).bind fun y31 =>
        (dk_31 y31.2 3 0 0 0).bind fun y35 =>
        (dk_212 y35.2).bind fun y39 =>
        some (y39.1, y39.2)
theorem dk_249_42T {d : Nat} : ∀ ⦃F : wq_F⦄ (hT : wm_T F) ⦃v1 : Nat⦄ (hv1 : v1 < 4294967296) ⦃v2 : Nat⦄ (hv2 : v2 < 4294967296) ⦃v3 : Nat⦄ (hv3 : v3 < 2) ⦃x : Nat × wq_F⦄ (h : dk_249_42 F v1 v2 v3 = some x), wq (wq_cf (d + 2)) (ev_un al_mX12_fields.2.2.2.2) (some .boolean) 42 [36893488147419103232, v1, v2, v3, 73786976294838206464, 73786976294838206464, 73786976294838206464] [] wm_sh F 0 0 (wkZ wm_T wm_sh x) := by
  intro F hT v1 hv1 v2 hv2 v3 hv3 x h
  unfold dk_249_42 at h
  refine wq_iload_n rfl rfl hv2 ?_
  refine wq_bipush rfl rfl ?_
  refine wq_ic_ne rfl rfl hv2 (by decide) (fun h1 => ?_) (fun h1 => ?_)
  · replace h := od_neg h h1
    refine wq_aload_n rfl rfl rfl ?_
    obtain ⟨y2, e3, h⟩ := od_bindE h
    refine wd_virtZ (q := 0) (y := y2) (as := [36893488147419103232]) rfl rfl rfl (by decide) (Nat.le_of_ble_eq_true rfl) (Nat.le_of_ble_eq_true rfl) rfl (Nat.le_of_ble_eq_true rfl) rfl (dkT_216 hT e3) (fun p4 T5 => ?_)
    refine wq_if_ne rfl rfl (wm_zlt p4) (fun h6 => ?_) (fun h6 => ?_)
    · replace h := od_neg h h6
      refine wq_aload_n rfl rfl rfl ?_
      obtain ⟨y7, e8, h⟩ := od_bindE h
      refine wd_virtI (q := 0) (y := y7) (as := [36893488147419103232]) rfl rfl rfl (by decide) (Nat.le_of_ble_eq_true rfl) (Nat.le_of_ble_eq_true rfl) rfl (Nat.le_of_ble_eq_true rfl) rfl (dkT_215 T5 e8) (fun p9 T10 => ?_)
      refine wq_istore rfl p9 (Nat.le_of_ble_eq_true rfl) (Or.inr ⟨_, rfl, (wq_notL (wm_zlt hv3))⟩) (L' := [36893488147419103232, v1, v2, v3, y7.1, 73786976294838206464, 73786976294838206464]) rfl ?_
      refine wq_iload_n rfl rfl (wm_zlt hv3) ?_
      refine wq_if_eq rfl rfl (wm_zlt hv3) (fun h11 => ?_) (fun h11 => ?_)
      · replace h := od_pos h h11
        refine wq_aload_n rfl rfl rfl ?_
        refine wm_getR (v := 36893488147419103241) rfl (by decide) (T10.r 21 8 rfl) ?_
        refine wq_aload_n rfl rfl rfl ?_
        refine wm_getI rfl (by decide) ?_
        obtain ⟨g12, h⟩ := od_gE h
        refine wq_iaload (q := 9) (n := 1502) rfl rfl (by decide) g12 (by decide) ?_
        refine wq_iconst rfl rfl ?_
        refine wq_ic_ne rfl rfl (T10.ai (k := 9) rfl g12) (wm_zlt (by decide)) (fun h13 => ?_) (fun h13 => ?_)
        · replace h := od_neg h h13
          refine wq_iconst rfl rfl ?_
          exact dk_249_161T T10 hv1 hv2 (by decide) (wq_notL (wm_zlt hv3)) (wq_notL p9) h
        · replace h := od_pos h h13
          refine wq_aload_n rfl rfl rfl ?_
          refine wm_getI rfl (by decide) ?_
          refine wq_sipush rfl rfl ?_
          refine wq_ic_ge rfl rfl (T10.i 25 rfl) (by decide) (fun h14 => ?_) (fun h14 => ?_)
          · replace h := od_neg h (Nat.not_lt.mpr h14)
            refine wq_iconst rfl rfl ?_
            exact dk_249_161T T10 hv1 hv2 (by decide) (wq_notL (wm_zlt hv3)) (wq_notL p9) h
          · replace h := od_pos h h14
            refine wq_aload_n rfl rfl rfl ?_
            refine wm_getR (v := 36893488147419103241) rfl (by decide) (T10.r 21 8 rfl) ?_
            refine wq_aload_n rfl rfl rfl ?_
            refine wm_getI rfl (by decide) ?_
            refine wq_iconst rfl rfl ?_
            refine wq_iaddZ rfl (T10.i 25 rfl) (wm_zlt (by decide)) (z := ((y7.2 0 25) + 1) % 4294967296) rfl ?_
            obtain ⟨y15, e16, h⟩ := od_letE h
            refine wq_top e16.symm ?_
            have p17 : y15 < 4294967296 := wd_lt e16 (Nat.mod_lt _ (by decide))
            obtain ⟨g18, h⟩ := od_gE h
            refine wq_iaload (q := 9) (n := 1502) rfl rfl (by decide) g18 (by decide) ?_
            refine wq_iconst rfl rfl ?_
            refine wq_ic_ne rfl rfl (T10.ai (k := 9) rfl g18) (by decide) (fun h19 => ?_) (fun h19 => ?_)
            · replace h := od_neg h h19
              refine wq_iconst rfl rfl ?_
              exact dk_249_161T T10 hv1 hv2 (by decide) (wq_notL (wm_zlt hv3)) (wq_notL p9) h
            · replace h := od_pos h h19
              refine wq_aload_n rfl rfl rfl ?_
              refine wm_getR (v := 36893488147419103243) rfl (by decide) (T10.r 23 10 rfl) ?_
              refine wq_aload_n rfl rfl rfl ?_
              refine wm_getI rfl (by decide) ?_
              refine wq_iconst rfl rfl ?_
              refine wq_iaddZ rfl (T10.i 25 rfl) (wm_zlt (by decide)) (z := ((y7.2 0 25) + 1) % 4294967296) rfl ?_
              obtain ⟨y20, e21, h⟩ := od_letE h
              refine wq_top e21.symm ?_
              have p22 : y20 < 4294967296 := wd_lt e21 (Nat.mod_lt _ (by decide))
              obtain ⟨g23, h⟩ := od_gE h
              refine wq_laload (q := 11) (n := 1502) rfl rfl (by decide) g23 (by decide) ?_
              obtain ⟨y24, e25, h⟩ := od_letE h
              refine wq_top e25.symm ?_
              have p26 : ev_isL y24 = true := wd_ge e25 (wm_al_L (T10.al (k := 11) rfl g23))
              refine wq_ldc2 rfl (by decide) ?_
              refine wq_lcmp rfl p26 rfl ?_
              obtain ⟨y27, e28, h⟩ := od_letE h
              refine wq_top e28.symm ?_
              have p29 : y27 < 4294967296 := wd_lt e28 (wq_oCmp_lt _ _)
              refine wq_if_ne rfl rfl p29 (fun h30 => ?_) (fun h30 => ?_)
              · replace h := od_neg h h30
                refine wq_iconst rfl rfl ?_
                exact dk_249_161T T10 hv1 hv2 (by decide) (wq_notL (wm_zlt hv3)) (wq_notL p9) h
              · replace h := od_pos h h30
                refine wq_iconst rfl rfl ?_
                refine wq_goto rfl rfl ?_
                exact dk_249_161T T10 hv1 hv2 (by decide) (wq_notL (wm_zlt hv3)) (wq_notL p9) h
      · replace h := od_neg h h11
        refine wq_aload_n rfl rfl rfl ?_
        refine wq_bipush rfl rfl ?_
        refine wq_iload rfl rfl p9 ?_
        refine wq_iload_n rfl rfl hv1 ?_
        refine wq_iload_n rfl rfl hv2 ?_
        obtain ⟨y31, e32, h⟩ := od_bindE h
        refine wd_virtN (q := 0) (y := y31) (as := [36893488147419103232, 16, y7.1, v1, v2]) rfl rfl rfl (by decide) (Nat.le_of_ble_eq_true rfl) (Nat.le_of_ble_eq_true rfl) rfl (Nat.le_of_ble_eq_true rfl) rfl (dkT_31 T10 (by decide) p9 hv1 hv2 e32) (fun T34 => ?_)
        refine wq_aload_n rfl rfl rfl ?_
        refine wq_iconst rfl rfl ?_
        refine wq_iconst rfl rfl ?_
        refine wq_iconst rfl rfl ?_
        refine wq_iconst rfl rfl ?_
        obtain ⟨y35, e36, h⟩ := od_bindE h
        refine wd_virtN (q := 0) (y := y35) (as := [36893488147419103232, 3, 0, 0, 0]) rfl rfl rfl (by decide) (Nat.le_of_ble_eq_true rfl) (Nat.le_of_ble_eq_true rfl) rfl (Nat.le_of_ble_eq_true rfl) rfl (dkT_31 T34 (by decide) (wm_zlt (by decide)) (wm_zlt (by decide)) (wm_zlt (by decide)) e36) (fun T38 => ?_)
        refine wq_aload_n rfl rfl rfl ?_
        obtain ⟨y39, e40, h⟩ := od_bindE h
        refine wd_virtZ (q := 0) (y := y39) (as := [36893488147419103232]) rfl rfl rfl (by decide) (Nat.le_of_ble_eq_true rfl) (Nat.le_of_ble_eq_true rfl) rfl (Nat.le_of_ble_eq_true rfl) rfl (dkT_212 T38 e40) (fun p41 T42 => ?_)
        exact wq_iret rfl (wm_zlt p41) (Nat.blt_eq.mpr p41) (wkOZ h T42 p41)
    · replace h := od_pos h h6
      refine wq_iconst rfl rfl ?_
      exact wq_iret rfl (wm_zlt (by decide)) (Nat.blt_eq.mpr (by decide)) (wkOZ h T5 (by decide))
  · replace h := od_pos h h1
    refine wq_aload_n rfl rfl rfl ?_
    refine wq_iconst rfl rfl ?_
    refine wq_aload_n rfl rfl rfl ?_
    obtain ⟨y43, e44, h⟩ := od_bindE h
    refine wd_virtI (q := 0) (y := y43) (as := [36893488147419103232]) rfl rfl rfl (by decide) (Nat.le_of_ble_eq_true rfl) (Nat.le_of_ble_eq_true rfl) rfl (Nat.le_of_ble_eq_true rfl) rfl (dkT_210 hT e44) (fun p45 T46 => ?_)
    obtain ⟨y47, e48, h⟩ := od_bindE h
    refine wd_virtZ (q := 0) (y := y47) (as := [36893488147419103232, 3, y43.1]) rfl rfl rfl (by decide) (Nat.le_of_ble_eq_true rfl) (Nat.le_of_ble_eq_true rfl) rfl (Nat.le_of_ble_eq_true rfl) rfl (dkT_209 T46 (by decide) p45 e48) (fun p49 T50 => ?_)
    exact wq_iret rfl (wm_zlt p49) (Nat.blt_eq.mpr p49) (wkOZ h T50 p49)
/-- X12_fields -/
def dk_249 (F : wq_F) (a0 : Nat) (a1 : Nat) : Option (Nat × wq_F) :=
  (dk_36 F 125).bind fun y1 =>
  if y1.1 = 0 then
    (dk_36 y1.2 91).bind fun y6 =>
    if y6.1 = 0 then
      (dk_217 y6.2).bind fun y11 =>
      if y11.1 = 0 then
        (dk_211 y11.2).bind fun y16 =>
        some (y16.1, y16.2)
      else
        dk_249_42 y11.2 a0 a1 y6.1
    else
      dk_249_42 y6.2 a0 a1 y6.1
  else
    od_up y1.2 0 64 4294967295 fun F20 =>
    (dk_212 F20).bind fun y23 =>
    some (y23.1, y23.2)
theorem dkT_249 {d : Nat} {F : wq_F} (hT : wm_T F) {a0 : Nat} (ha0 : a0 < 4294967296) {a1 : Nat} (ha1 : a1 < 4294967296) {x : Nat × wq_F} (h : dk_249 F a0 a1 = some x) : mq (d + 2 + 1) 249 [36893488147419103232, a0, a1] wm_sh F (wkZ wm_T wm_sh x) := by
  have e : ev_ent [36893488147419103232, a0, a1] = [36893488147419103232, a0, a1] := by
    show 36893488147419103232 :: ev_ent [a0, a1] = _
    rw [wm_entI ha0, wm_entI ha1]
    rfl
  refine mq_of (maxL := 7) (rt := (some .boolean)) (code := (ev_un al_mX12_fields.2.2.2.2)) (L := [36893488147419103232, a0, a1, 73786976294838206464, 73786976294838206464, 73786976294838206464, 73786976294838206464]) rfl (by rw [e]; exact Nat.le_of_ble_eq_true rfl) (by rw [e]; rfl) ?_
  unfold dk_249 at h
  refine wq_aload_n rfl rfl rfl ?_
  refine wq_bipush rfl rfl ?_
  obtain ⟨y1, e2, h⟩ := od_bindE h
  refine wd_virtZ (q := 0) (y := y1) (as := [36893488147419103232, 125]) rfl rfl rfl (by decide) (Nat.le_of_ble_eq_true rfl) (Nat.le_of_ble_eq_true rfl) rfl (Nat.le_of_ble_eq_true rfl) rfl (dkT_36 hT (by decide) e2) (fun p3 T4 => ?_)
  refine wq_if_eq rfl rfl (wm_zlt p3) (fun h5 => ?_) (fun h5 => ?_)
  · replace h := od_pos h h5
    refine wq_aload_n rfl rfl rfl ?_
    refine wq_bipush rfl rfl ?_
    obtain ⟨y6, e7, h⟩ := od_bindE h
    refine wd_virtZ (q := 0) (y := y6) (as := [36893488147419103232, 91]) rfl rfl rfl (by decide) (Nat.le_of_ble_eq_true rfl) (Nat.le_of_ble_eq_true rfl) rfl (Nat.le_of_ble_eq_true rfl) rfl (dkT_36 T4 (by decide) e7) (fun p8 T9 => ?_)
    refine wq_istore_n rfl (wm_zlt p8) (Nat.le_of_ble_eq_true rfl) (Or.inr ⟨_, rfl, (wq_notL ha1)⟩) (L' := [36893488147419103232, a0, a1, y6.1, 73786976294838206464, 73786976294838206464, 73786976294838206464]) rfl ?_
    refine wq_iload_n rfl rfl (wm_zlt p8) ?_
    refine wq_if_ne rfl rfl (wm_zlt p8) (fun h10 => ?_) (fun h10 => ?_)
    · replace h := od_neg h h10
      exact dk_249_42T T9 ha0 ha1 p8 h
    · replace h := od_pos h h10
      refine wq_aload_n rfl rfl rfl ?_
      obtain ⟨y11, e12, h⟩ := od_bindE h
      refine wd_virtZ (q := 0) (y := y11) (as := [36893488147419103232]) rfl rfl rfl (by decide) (Nat.le_of_ble_eq_true rfl) (Nat.le_of_ble_eq_true rfl) rfl (Nat.le_of_ble_eq_true rfl) rfl (dkT_217 T9 e12) (fun p13 T14 => ?_)
      refine wq_if_ne rfl rfl (wm_zlt p13) (fun h15 => ?_) (fun h15 => ?_)
      · replace h := od_neg h h15
        exact dk_249_42T T14 ha0 ha1 p8 h
      · replace h := od_pos h h15
        refine wq_aload_n rfl rfl rfl ?_
        obtain ⟨y16, e17, h⟩ := od_bindE h
        refine wd_virtZ (q := 0) (y := y16) (as := [36893488147419103232]) rfl rfl rfl (by decide) (Nat.le_of_ble_eq_true rfl) (Nat.le_of_ble_eq_true rfl) rfl (Nat.le_of_ble_eq_true rfl) rfl (dkT_211 T14 e17) (fun p18 T19 => ?_)
        exact wq_iret rfl (wm_zlt p18) (Nat.blt_eq.mpr p18) (wkOZ h T19 p18)
  · replace h := od_neg h h5
    refine wq_aload_n rfl rfl rfl ?_
    refine wq_iconst rfl rfl ?_
    obtain ⟨F20, e21, h⟩ := od_upE h
    refine wmE_put rfl (by decide) (wq_I (by decide)) e21 ?_
    have T22 : wm_T F20 := wd_T e21 (T4.uf (f := 64) (c := 0) (v := 4294967295) rfl (show 4294967295 < 4294967296 from (by decide)))
    refine wq_aload_n rfl rfl rfl ?_
    obtain ⟨y23, e24, h⟩ := od_bindE h
    refine wd_virtZ (q := 0) (y := y23) (as := [36893488147419103232]) rfl rfl rfl (by decide) (Nat.le_of_ble_eq_true rfl) (Nat.le_of_ble_eq_true rfl) rfl (Nat.le_of_ble_eq_true rfl) rfl (dkT_212 T22 e24) (fun p25 T26 => ?_)
    exact wq_iret rfl (wm_zlt p25) (Nat.blt_eq.mpr p25) (wkOZ h T26 p25)
/-- X12_isParting -/
def dk_250 (F : wq_F) : Option (Nat × wq_F) :=
  (dk_36 F 44).bind fun y1 =>
  if y1.1 = 0 then
    (dk_36 y1.2 59).bind fun y6 =>
    if y6.1 = 0 then
      some (0, y6.2)
    else
      some (1, y6.2)
  else
    some (1, y1.2)
theorem dkT_250 {d : Nat} {F : wq_F} (hT : wm_T F) {x : Nat × wq_F} (h : dk_250 F = some x) : mq (d + 1 + 1) 250 [36893488147419103232] wm_sh F (wkZ wm_T wm_sh x) := by
  have e : ev_ent [36893488147419103232] = [36893488147419103232] := by
    rfl
  refine mq_of (maxL := 1) (rt := (some .boolean)) (code := (ev_un al_mX12_isParting.2.2.2.2)) (L := [36893488147419103232]) rfl (by rw [e]; exact Nat.le_of_ble_eq_true rfl) (by rw [e]; rfl) ?_
  unfold dk_250 at h
  refine wq_aload_n rfl rfl rfl ?_
  refine wq_bipush rfl rfl ?_
  obtain ⟨y1, e2, h⟩ := od_bindE h
  refine wd_virtZ (q := 0) (y := y1) (as := [36893488147419103232, 44]) rfl rfl rfl (by decide) (Nat.le_of_ble_eq_true rfl) (Nat.le_of_ble_eq_true rfl) rfl (Nat.le_of_ble_eq_true rfl) rfl (dkT_36 hT (by decide) e2) (fun p3 T4 => ?_)
  refine wq_if_ne rfl rfl (wm_zlt p3) (fun h5 => ?_) (fun h5 => ?_)
  · replace h := od_neg h h5
    refine wq_iconst rfl rfl ?_
    refine wq_goto rfl rfl ?_
    exact wq_iret rfl (wm_zlt (by decide)) (Nat.blt_eq.mpr (by decide)) (wkOZ h T4 (by decide))
  · replace h := od_pos h h5
    refine wq_aload_n rfl rfl rfl ?_
    refine wq_bipush rfl rfl ?_
    obtain ⟨y6, e7, h⟩ := od_bindE h
    refine wd_virtZ (q := 0) (y := y6) (as := [36893488147419103232, 59]) rfl rfl rfl (by decide) (Nat.le_of_ble_eq_true rfl) (Nat.le_of_ble_eq_true rfl) rfl (Nat.le_of_ble_eq_true rfl) rfl (dkT_36 T4 (by decide) e7) (fun p8 T9 => ?_)
    refine wq_if_eq rfl rfl (wm_zlt p8) (fun h10 => ?_) (fun h10 => ?_)
    · replace h := od_pos h h10
      refine wq_iconst rfl rfl ?_
      exact wq_iret rfl (wm_zlt (by decide)) (Nat.blt_eq.mpr (by decide)) (wkOZ h T9 (by decide))
    · replace h := od_neg h h10
      refine wq_iconst rfl rfl ?_
      refine wq_goto rfl rfl ?_
      exact wq_iret rfl (wm_zlt (by decide)) (Nat.blt_eq.mpr (by decide)) (wkOZ h T9 (by decide))
/-- X12_keyed -/
def dk_251 (F : wq_F) (a0 : Nat) (a1 : Nat) (a2 : Nat) : Option (Nat × wq_F) :=
  od_let (((F 0 47) + (4294967296 - 1)) % 4294967296) fun y1 =>
  od_up F 0 47 y1 fun F4 =>
  (dk_30 F4 27 0 0 a0).bind fun y7 =>
  (dk_31 y7.2 15 a1 ((a2 + 1) % 4294967296) 0).bind fun y11 =>
  (dk_250 y11.2).bind fun y15 =>
  if y15.1 = 0 then
    (dk_36 y15.2 125).bind fun y20 =>
    if y20.1 = 0 then
      (dk_211 y20.2).bind fun y25 =>
      if y25.1 = 0 then
        some (0, y25.2)
      else
        some (1, y25.2)
    else
      some (1, y20.2)
  else
    (dk_212 y15.2).bind fun y30 =>
    some (y30.1, y30.2)
theorem dkT_251 {d : Nat} {F : wq_F} (hT : wm_T F) {a0 : Nat} (ha0 : a0 < 4294967296) {a1 : Nat} (ha1 : a1 < 4294967296) {a2 : Nat} (ha2 : a2 < 4294967296) {x : Nat × wq_F} (h : dk_251 F a0 a1 a2 = some x) : mq (d + 2 + 1) 251 [36893488147419103232, a0, a1, a2] wm_sh F (wkZ wm_T wm_sh x) := by
  have e : ev_ent [36893488147419103232, a0, a1, a2] = [36893488147419103232, a0, a1, a2] := by
    show 36893488147419103232 :: ev_ent [a0, a1, a2] = _
    rw [wm_entI ha0, wm_entI ha1, wm_entI ha2]
    rfl
  refine mq_of (maxL := 5) (rt := (some .boolean)) (code := (ev_un al_mX12_keyed.2.2.2.2)) (L := [36893488147419103232, a0, a1, a2, 73786976294838206464]) rfl (by rw [e]; exact Nat.le_of_ble_eq_true rfl) (by rw [e]; rfl) ?_
  unfold dk_251 at h
  refine wq_aload_n rfl rfl rfl ?_
  refine wq_dup rfl rfl ?_
  refine wm_getI rfl (by decide) ?_
  refine wq_iconst rfl rfl ?_
  refine wq_isubZ rfl (hT.i 47 rfl) (wm_zlt (by decide)) (z := ((F 0 47) + (4294967296 - 1)) % 4294967296) rfl ?_
  obtain ⟨y1, e2, h⟩ := od_letE h
  refine wq_top e2.symm ?_
  have p3 : y1 < 4294967296 := wd_lt e2 (Nat.mod_lt _ (by decide))
  obtain ⟨F4, e5, h⟩ := od_upE h
  refine wmE_put rfl (by decide) (wq_I p3) e5 ?_
  have T6 : wm_T F4 := wd_T e5 (hT.uf (f := 47) (c := 0) (v := y1) rfl (show y1 < 4294967296 from p3))
  refine wq_aload_n rfl rfl rfl ?_
  refine wq_bipush rfl rfl ?_
  refine wq_iconst rfl rfl ?_
  refine wq_iconst rfl rfl ?_
  refine wq_iload_n rfl rfl ha0 ?_
  obtain ⟨y7, e8, h⟩ := od_bindE h
  refine wd_virtI (q := 0) (y := y7) (as := [36893488147419103232, 27, 0, 0, a0]) rfl rfl rfl (by decide) (Nat.le_of_ble_eq_true rfl) (Nat.le_of_ble_eq_true rfl) rfl (Nat.le_of_ble_eq_true rfl) rfl (dkT_30 T6 (by decide) (wm_zlt (by decide)) (wm_zlt (by decide)) ha0 e8) (fun p9 T10 => ?_)
  refine wq_istore rfl p9 (Nat.le_of_ble_eq_true rfl) (Or.inr ⟨_, rfl, (wq_notL ha2)⟩) (L' := [36893488147419103232, a0, a1, a2, y7.1]) rfl ?_
  refine wq_aload_n rfl rfl rfl ?_
  refine wq_bipush rfl rfl ?_
  refine wq_iload_n rfl rfl ha1 ?_
  refine wq_iload_n rfl rfl ha2 ?_
  refine wq_iconst rfl rfl ?_
  refine wq_iaddZ rfl ha2 (wm_zlt (by decide)) (z := (a2 + 1) % 4294967296) rfl ?_
  refine wq_iconst rfl rfl ?_
  obtain ⟨y11, e12, h⟩ := od_bindE h
  refine wd_virtN (q := 0) (y := y11) (as := [36893488147419103232, 15, a1, (a2 + 1) % 4294967296, 0]) rfl rfl rfl (by decide) (Nat.le_of_ble_eq_true rfl) (Nat.le_of_ble_eq_true rfl) rfl (Nat.le_of_ble_eq_true rfl) rfl (dkT_31 T10 (by decide) ha1 (Nat.mod_lt _ (by decide)) (wm_zlt (by decide)) e12) (fun T14 => ?_)
  refine wq_aload_n rfl rfl rfl ?_
  obtain ⟨y15, e16, h⟩ := od_bindE h
  refine wd_virtZ (q := 0) (y := y15) (as := [36893488147419103232]) rfl rfl rfl (by decide) (Nat.le_of_ble_eq_true rfl) (Nat.le_of_ble_eq_true rfl) rfl (Nat.le_of_ble_eq_true rfl) rfl (dkT_250 T14 e16) (fun p17 T18 => ?_)
  refine wq_if_eq rfl rfl (wm_zlt p17) (fun h19 => ?_) (fun h19 => ?_)
  · replace h := od_pos h h19
    refine wq_aload_n rfl rfl rfl ?_
    refine wq_bipush rfl rfl ?_
    obtain ⟨y20, e21, h⟩ := od_bindE h
    refine wd_virtZ (q := 0) (y := y20) (as := [36893488147419103232, 125]) rfl rfl rfl (by decide) (Nat.le_of_ble_eq_true rfl) (Nat.le_of_ble_eq_true rfl) rfl (Nat.le_of_ble_eq_true rfl) rfl (dkT_36 T18 (by decide) e21) (fun p22 T23 => ?_)
    refine wq_if_ne rfl rfl (wm_zlt p22) (fun h24 => ?_) (fun h24 => ?_)
    · replace h := od_neg h h24
      refine wq_iconst rfl rfl ?_
      refine wq_goto rfl rfl ?_
      exact wq_iret rfl (wm_zlt (by decide)) (Nat.blt_eq.mpr (by decide)) (wkOZ h T23 (by decide))
    · replace h := od_pos h h24
      refine wq_aload_n rfl rfl rfl ?_
      obtain ⟨y25, e26, h⟩ := od_bindE h
      refine wd_virtZ (q := 0) (y := y25) (as := [36893488147419103232]) rfl rfl rfl (by decide) (Nat.le_of_ble_eq_true rfl) (Nat.le_of_ble_eq_true rfl) rfl (Nat.le_of_ble_eq_true rfl) rfl (dkT_211 T23 e26) (fun p27 T28 => ?_)
      refine wq_if_eq rfl rfl (wm_zlt p27) (fun h29 => ?_) (fun h29 => ?_)
      · replace h := od_pos h h29
        refine wq_iconst rfl rfl ?_
        exact wq_iret rfl (wm_zlt (by decide)) (Nat.blt_eq.mpr (by decide)) (wkOZ h T28 (by decide))
      · replace h := od_neg h h29
        refine wq_iconst rfl rfl ?_
        refine wq_goto rfl rfl ?_
        exact wq_iret rfl (wm_zlt (by decide)) (Nat.blt_eq.mpr (by decide)) (wkOZ h T28 (by decide))
  · replace h := od_neg h h19
    refine wq_aload_n rfl rfl rfl ?_
    obtain ⟨y30, e31, h⟩ := od_bindE h
    refine wd_virtZ (q := 0) (y := y30) (as := [36893488147419103232]) rfl rfl rfl (by decide) (Nat.le_of_ble_eq_true rfl) (Nat.le_of_ble_eq_true rfl) rfl (Nat.le_of_ble_eq_true rfl) rfl (dkT_212 T18 e31) (fun p32 T33 => ?_)
    refine wq_goto rfl rfl ?_
    exact wq_iret rfl (wm_zlt p32) (Nat.blt_eq.mpr p32) (wkOZ h T33 p32)
def dk_252_102 (F : wq_F) (v1 : Nat) (v2 : Nat) : Option (Nat × wq_F) :=
  (dk_31 F 15 ((v1 + 1) % 4294967296) ((v2 + 1) % 4294967296) 0).bind fun y1 =>
  some (1, y1.2)
theorem dk_252_102T {d : Nat} : ∀ ⦃u3 : Nat⦄ ⦃u4 : Nat⦄ ⦃u5 : Nat⦄ ⦃F : wq_F⦄ (hT : wm_T F) ⦃v1 : Nat⦄ (hv1 : v1 < 4294967296) ⦃v2 : Nat⦄ (hv2 : v2 < 4294967296) (hu3 : ev_isL u3 = false) (hu4 : ev_isL u4 = false) (hu5 : ev_isL u5 = false) ⦃x : Nat × wq_F⦄ (h : dk_252_102 F v1 v2 = some x), wq (wq_cf (d + 2)) (ev_un al_mX12_positional.2.2.2.2) (some .boolean) 102 [36893488147419103232, v1, v2, u3, u4, u5] [] wm_sh F 0 0 (wkZ wm_T wm_sh x) := by
  intro u3 u4 u5 F hT v1 hv1 v2 hv2 hu3 hu4 hu5 x h
  unfold dk_252_102 at h
  refine wq_aload_n rfl rfl rfl ?_
  refine wq_bipush rfl rfl ?_
  refine wq_iload_n rfl rfl hv1 ?_
  refine wq_iconst rfl rfl ?_
  refine wq_iaddZ rfl hv1 (wm_zlt (by decide)) (z := (v1 + 1) % 4294967296) rfl ?_
  refine wq_iload_n rfl rfl hv2 ?_
  refine wq_iconst rfl rfl ?_
  refine wq_iaddZ rfl hv2 (wm_zlt (by decide)) (z := (v2 + 1) % 4294967296) rfl ?_
  refine wq_iconst rfl rfl ?_
  obtain ⟨y1, e2, h⟩ := od_bindE h
  refine wd_virtN (q := 0) (y := y1) (as := [36893488147419103232, 15, (v1 + 1) % 4294967296, (v2 + 1) % 4294967296, 0]) rfl rfl rfl (by decide) (Nat.le_of_ble_eq_true rfl) (Nat.le_of_ble_eq_true rfl) rfl (Nat.le_of_ble_eq_true rfl) rfl (dkT_31 hT (by decide) (Nat.mod_lt _ (by decide)) (Nat.mod_lt _ (by decide)) (wm_zlt (by decide)) e2) (fun T4 => ?_)
  refine wq_iconst rfl rfl ?_
  exact wq_iret rfl (wm_zlt (by decide)) (Nat.blt_eq.mpr (by decide)) (wkOZ h T4 (by decide))
def dk_252_54 (F : wq_F) (v1 : Nat) (v2 : Nat) (v3 : Nat) : Option (Nat × wq_F) :=
  (dk_36 F 125).bind fun y1 =>
  if y1.1 = 0 then
    (dk_30 y1.2 28 v1 0 0).bind fun y6 =>
    dk_252_102 y6.2 v1 v2
  else
    if 2147483648 ≤ v3 then
      (dk_30 y1.2 28 v1 0 0).bind fun y11 =>
      dk_252_102 y11.2 v1 v2
    else
      od_g (v3 < 14000) <|
      od_up y1.2 21 v3 4294967295 fun F16 =>
      (dk_30 F16 29 v1 0 0).bind fun y19 =>
      dk_252_102 y19.2 v1 v2
theorem dk_252_54T {d : Nat} : ∀ ⦃u4 : Nat⦄ ⦃F : wq_F⦄ (hT : wm_T F) ⦃v1 : Nat⦄ (hv1 : v1 < 4294967296) ⦃v2 : Nat⦄ (hv2 : v2 < 4294967296) ⦃v3 : Nat⦄ (hv3 : v3 < 4294967296) (hu4 : ev_isL u4 = false) ⦃x : Nat × wq_F⦄ (h : dk_252_54 F v1 v2 v3 = some x), wq (wq_cf (d + 2)) (ev_un al_mX12_positional.2.2.2.2) (some .boolean) 54 [36893488147419103232, v1, v2, v3, u4, 73786976294838206464] [] wm_sh F 0 0 (wkZ wm_T wm_sh x) := by
  intro u4 F hT v1 hv1 v2 hv2 v3 hv3 hu4 x h
  unfold dk_252_54 at h
  refine wq_iconst rfl rfl ?_
  refine wq_istore rfl (wm_zlt (by decide)) (Nat.le_of_ble_eq_true rfl) (Or.inr ⟨_, rfl, hu4⟩) (L' := [36893488147419103232, v1, v2, v3, u4, 0]) rfl ?_
  refine wq_aload_n rfl rfl rfl ?_
  refine wq_bipush rfl rfl ?_
  obtain ⟨y1, e2, h⟩ := od_bindE h
  refine wd_virtZ (q := 0) (y := y1) (as := [36893488147419103232, 125]) rfl rfl rfl (by decide) (Nat.le_of_ble_eq_true rfl) (Nat.le_of_ble_eq_true rfl) rfl (Nat.le_of_ble_eq_true rfl) rfl (dkT_36 hT (by decide) e2) (fun p3 T4 => ?_)
  refine wq_if_eq rfl rfl (wm_zlt p3) (fun h5 => ?_) (fun h5 => ?_)
  · replace h := od_pos h h5
    refine wq_aload_n rfl rfl rfl ?_
    refine wq_bipush rfl rfl ?_
    refine wq_iload_n rfl rfl hv1 ?_
    refine wq_iconst rfl rfl ?_
    refine wq_iconst rfl rfl ?_
    obtain ⟨y6, e7, h⟩ := od_bindE h
    refine wd_virtI (q := 0) (y := y6) (as := [36893488147419103232, 28, v1, 0, 0]) rfl rfl rfl (by decide) (Nat.le_of_ble_eq_true rfl) (Nat.le_of_ble_eq_true rfl) rfl (Nat.le_of_ble_eq_true rfl) rfl (dkT_30 T4 (by decide) hv1 (wm_zlt (by decide)) (wm_zlt (by decide)) e7) (fun p8 T9 => ?_)
    refine wq_istore rfl p8 (Nat.le_of_ble_eq_true rfl) (Or.inr ⟨_, rfl, hu4⟩) (L' := [36893488147419103232, v1, v2, v3, u4, y6.1]) rfl ?_
    exact dk_252_102T T9 hv1 hv2 (wq_notL hv3) hu4 (wq_notL p8) h
  · replace h := od_neg h h5
    refine wq_iload_n rfl rfl hv3 ?_
    refine wq_if_lt rfl rfl hv3 (fun h10 => ?_) (fun h10 => ?_)
    · replace h := od_pos h h10
      refine wq_aload_n rfl rfl rfl ?_
      refine wq_bipush rfl rfl ?_
      refine wq_iload_n rfl rfl hv1 ?_
      refine wq_iconst rfl rfl ?_
      refine wq_iconst rfl rfl ?_
      obtain ⟨y11, e12, h⟩ := od_bindE h
      refine wd_virtI (q := 0) (y := y11) (as := [36893488147419103232, 28, v1, 0, 0]) rfl rfl rfl (by decide) (Nat.le_of_ble_eq_true rfl) (Nat.le_of_ble_eq_true rfl) rfl (Nat.le_of_ble_eq_true rfl) rfl (dkT_30 T4 (by decide) hv1 (wm_zlt (by decide)) (wm_zlt (by decide)) e12) (fun p13 T14 => ?_)
      refine wq_istore rfl p13 (Nat.le_of_ble_eq_true rfl) (Or.inr ⟨_, rfl, hu4⟩) (L' := [36893488147419103232, v1, v2, v3, u4, y11.1]) rfl ?_
      exact dk_252_102T T14 hv1 hv2 (wq_notL hv3) hu4 (wq_notL p13) h
    · replace h := od_neg h (Nat.not_le.mpr h10)
      refine wq_aload_n rfl rfl rfl ?_
      refine wm_getR (v := 36893488147419103253) rfl (by decide) (T4.r 36 20 rfl) ?_
      refine wq_iload_n rfl rfl hv3 ?_
      refine wq_iconst rfl rfl ?_
      obtain ⟨g15, h⟩ := od_gE h
      obtain ⟨F16, e17, h⟩ := od_upE h
      refine wd_iastore (q := 21) (n := 14000) rfl rfl (by decide) g15 (by decide) (by decide) e17 ?_
      have T18 : wm_T F16 := wd_T e17 (T4.ua (k := 21) (kd := 1000) (n := 14000) (i := v3) (v := 4294967295) rfl (by decide) g15 (show 4294967295 < 4294967296 from (by decide)))
      refine wq_aload_n rfl rfl rfl ?_
      refine wq_bipush rfl rfl ?_
      refine wq_iload_n rfl rfl hv1 ?_
      refine wq_iconst rfl rfl ?_
      refine wq_iconst rfl rfl ?_
      obtain ⟨y19, e20, h⟩ := od_bindE h
      refine wd_virtI (q := 0) (y := y19) (as := [36893488147419103232, 29, v1, 0, 0]) rfl rfl rfl (by decide) (Nat.le_of_ble_eq_true rfl) (Nat.le_of_ble_eq_true rfl) rfl (Nat.le_of_ble_eq_true rfl) rfl (dkT_30 T18 (by decide) hv1 (wm_zlt (by decide)) (wm_zlt (by decide)) e20) (fun p21 T22 => ?_)
      refine wq_istore rfl p21 (Nat.le_of_ble_eq_true rfl) (Or.inr ⟨_, rfl, hu4⟩) (L' := [36893488147419103232, v1, v2, v3, u4, y19.1]) rfl ?_
      refine wq_goto rfl rfl ?_
      exact dk_252_102T T22 hv1 hv2 (wq_notL hv3) hu4 (wq_notL p21) h
def dk_252_35 (F : wq_F) (v1 : Nat) (v2 : Nat) (v3 : Nat) (v4 : Nat) : Option (Nat × wq_F) :=
  if v4 = 0 then
    (dk_36 F 125).bind fun y2 =>
    if y2.1 = 0 then
      (dk_211 y2.2).bind fun y7 =>
      some (y7.1, y7.2)
    else
      dk_252_54 y2.2 v1 v2 v3
  else
    dk_252_54 F v1 v2 v3
theorem dk_252_35T {d : Nat} : ∀ ⦃F : wq_F⦄ (hT : wm_T F) ⦃v1 : Nat⦄ (hv1 : v1 < 4294967296) ⦃v2 : Nat⦄ (hv2 : v2 < 4294967296) ⦃v3 : Nat⦄ (hv3 : v3 < 4294967296) ⦃v4 : Nat⦄ (hv4 : v4 < 2) ⦃x : Nat × wq_F⦄ (h : dk_252_35 F v1 v2 v3 v4 = some x), wq (wq_cf (d + 2)) (ev_un al_mX12_positional.2.2.2.2) (some .boolean) 35 [36893488147419103232, v1, v2, v3, v4, 73786976294838206464] [] wm_sh F 0 0 (wkZ wm_T wm_sh x) := by
  intro F hT v1 hv1 v2 hv2 v3 hv3 v4 hv4 x h
  unfold dk_252_35 at h
  refine wq_iload rfl rfl (wm_zlt hv4) ?_
  refine wq_if_ne rfl rfl (wm_zlt hv4) (fun h1 => ?_) (fun h1 => ?_)
  · replace h := od_neg h h1
    exact dk_252_54T hT hv1 hv2 hv3 (wq_notL (wm_zlt hv4)) h
  · replace h := od_pos h h1
    refine wq_aload_n rfl rfl rfl ?_
    refine wq_bipush rfl rfl ?_
    obtain ⟨y2, e3, h⟩ := od_bindE h
    refine wd_virtZ (q := 0) (y := y2) (as := [36893488147419103232, 125]) rfl rfl rfl (by decide) (Nat.le_of_ble_eq_true rfl) (Nat.le_of_ble_eq_true rfl) rfl (Nat.le_of_ble_eq_true rfl) rfl (dkT_36 hT (by decide) e3) (fun p4 T5 => ?_)
    refine wq_if_ne rfl rfl (wm_zlt p4) (fun h6 => ?_) (fun h6 => ?_)
    · replace h := od_neg h h6
      exact dk_252_54T T5 hv1 hv2 hv3 (wq_notL (wm_zlt hv4)) h
    · replace h := od_pos h h6
      refine wq_aload_n rfl rfl rfl ?_
      obtain ⟨y7, e8, h⟩ := od_bindE h
      refine wd_virtZ (q := 0) (y := y7) (as := [36893488147419103232]) rfl rfl rfl (by decide) (Nat.le_of_ble_eq_true rfl) (Nat.le_of_ble_eq_true rfl) rfl (Nat.le_of_ble_eq_true rfl) rfl (dkT_211 T5 e8) (fun p9 T10 => ?_)
      exact wq_iret rfl (wm_zlt p9) (Nat.blt_eq.mpr p9) (wkOZ h T10 p9)
/-- X12_positional -/
def dk_252 (F : wq_F) (a0 : Nat) (a1 : Nat) : Option (Nat × wq_F) :=
  od_let (((F 0 47) + (4294967296 - 1)) % 4294967296) fun y1 =>
  od_up F 0 47 y1 fun F4 =>
  (dk_250 F4).bind fun y7 =>
  if y7.1 = 0 then
    dk_252_35 y7.2 a0 a1 (F4 0 64) y7.1
  else
    (dk_212 y7.2).bind fun y12 =>
    if y12.1 = 0 then
      some (0, y12.2)
    else
      dk_252_35 y12.2 a0 a1 (F4 0 64) y7.1
theorem dkT_252 {d : Nat} {F : wq_F} (hT : wm_T F) {a0 : Nat} (ha0 : a0 < 4294967296) {a1 : Nat} (ha1 : a1 < 4294967296) {x : Nat × wq_F} (h : dk_252 F a0 a1 = some x) : mq (d + 2 + 1) 252 [36893488147419103232, a0, a1] wm_sh F (wkZ wm_T wm_sh x) := by
  have e : ev_ent [36893488147419103232, a0, a1] = [36893488147419103232, a0, a1] := by
    show 36893488147419103232 :: ev_ent [a0, a1] = _
    rw [wm_entI ha0, wm_entI ha1]
    rfl
  refine mq_of (maxL := 6) (rt := (some .boolean)) (code := (ev_un al_mX12_positional.2.2.2.2)) (L := [36893488147419103232, a0, a1, 73786976294838206464, 73786976294838206464, 73786976294838206464]) rfl (by rw [e]; exact Nat.le_of_ble_eq_true rfl) (by rw [e]; rfl) ?_
  unfold dk_252 at h
  refine wq_aload_n rfl rfl rfl ?_
  refine wq_dup rfl rfl ?_
  refine wm_getI rfl (by decide) ?_
  refine wq_iconst rfl rfl ?_
  refine wq_isubZ rfl (hT.i 47 rfl) (wm_zlt (by decide)) (z := ((F 0 47) + (4294967296 - 1)) % 4294967296) rfl ?_
  obtain ⟨y1, e2, h⟩ := od_letE h
  refine wq_top e2.symm ?_
  have p3 : y1 < 4294967296 := wd_lt e2 (Nat.mod_lt _ (by decide))
  obtain ⟨F4, e5, h⟩ := od_upE h
  refine wmE_put rfl (by decide) (wq_I p3) e5 ?_
  have T6 : wm_T F4 := wd_T e5 (hT.uf (f := 47) (c := 0) (v := y1) rfl (show y1 < 4294967296 from p3))
  refine wq_aload_n rfl rfl rfl ?_
  refine wm_getI rfl (by decide) ?_
  refine wq_istore_n rfl (T6.i 64 rfl) (Nat.le_of_ble_eq_true rfl) (Or.inr ⟨_, rfl, (wq_notL ha1)⟩) (L' := [36893488147419103232, a0, a1, F4 0 64, 73786976294838206464, 73786976294838206464]) rfl ?_
  refine wq_aload_n rfl rfl rfl ?_
  obtain ⟨y7, e8, h⟩ := od_bindE h
  refine wd_virtZ (q := 0) (y := y7) (as := [36893488147419103232]) rfl rfl rfl (by decide) (Nat.le_of_ble_eq_true rfl) (Nat.le_of_ble_eq_true rfl) rfl (Nat.le_of_ble_eq_true rfl) rfl (dkT_250 T6 e8) (fun p9 T10 => ?_)
  refine wq_istore rfl (wm_zlt p9) (Nat.le_of_ble_eq_true rfl) (Or.inr ⟨_, rfl, (wq_notL (T6.i 64 rfl))⟩) (L' := [36893488147419103232, a0, a1, F4 0 64, y7.1, 73786976294838206464]) rfl ?_
  refine wq_iload rfl rfl (wm_zlt p9) ?_
  refine wq_if_eq rfl rfl (wm_zlt p9) (fun h11 => ?_) (fun h11 => ?_)
  · replace h := od_pos h h11
    exact dk_252_35T T10 ha0 ha1 (T6.i 64 rfl) p9 h
  · replace h := od_neg h h11
    refine wq_aload_n rfl rfl rfl ?_
    obtain ⟨y12, e13, h⟩ := od_bindE h
    refine wd_virtZ (q := 0) (y := y12) (as := [36893488147419103232]) rfl rfl rfl (by decide) (Nat.le_of_ble_eq_true rfl) (Nat.le_of_ble_eq_true rfl) rfl (Nat.le_of_ble_eq_true rfl) rfl (dkT_212 T10 e13) (fun p14 T15 => ?_)
    refine wq_if_ne rfl rfl (wm_zlt p14) (fun h16 => ?_) (fun h16 => ?_)
    · replace h := od_neg h h16
      exact dk_252_35T T15 ha0 ha1 (T6.i 64 rfl) p9 h
    · replace h := od_pos h h16
      refine wq_iconst rfl rfl ?_
      exact wq_iret rfl (wm_zlt (by decide)) (Nat.blt_eq.mpr (by decide)) (wkOZ h T15 (by decide))
def dk_254_16b (n : Nat) (r16 : wq_F → Nat → Nat → Option (Nat × wq_F)) (F : wq_F) (v1 : Nat) (v2 : Nat) : Option (Nat × wq_F) :=
  if v2 = 0 then
    (dk_213 F 41).bind fun y2 =>
    some (y2.1, y2.2)
  else
    (dk_36 F 301).bind fun y6 =>
    if y6.1 = 0 then
      od_g (y6.2 0 25 < 1502) <|
      if (y6.2 9 (y6.2 0 25)) = 1 then
        (dk_210 y6.2).bind fun y13 =>
        (dk_219 y13.2 y13.1).bind fun y17 =>
        if 2147483648 ≤ y17.1 then
          some (0, y17.2)
        else
          od_g (y17.2 0 25 < 1502) <|
          od_let (18446744073709551616 + y17.2 11 (y17.2 0 25)) fun y23 =>
          (dk_220 y17.2 (ev_oL2i y23) y17.1).bind fun y26 =>
          (dk_212 y26.2).bind fun y30 =>
          if y30.1 = 0 then
            some (0, y30.2)
          else
            (dk_36 y30.2 44).bind fun y35 =>
            if y35.1 = 0 then
              r16 y35.2 v1 y35.1
            else
              (dk_212 y35.2).bind fun y40 =>
              if y40.1 = 0 then
                some (0, y40.2)
              else
                r16 y40.2 v1 y35.1
      else
        (dk_211 y6.2).bind fun y45 =>
        some (y45.1, y45.2)
    else
      od_g (v1 < 51) <|
      od_up y6.2 16 v1 1 fun F50 =>
      (dk_212 F50).bind fun y53 =>
      if y53.1 = 0 then
        some (0, y53.2)
      else
        (dk_213 y53.2 41).bind fun y58 =>
        if y58.1 = 0 then
          some (0, y58.2)
        else
          some (1, y58.2)
theorem dk_254_16bT {d n : Nat} {r16 : wq_F → Nat → Nat → Option (Nat × wq_F)} (hr16 : ∀ ⦃u3 : Nat⦄ ⦃F : wq_F⦄ (hT : wm_T F) ⦃v1 : Nat⦄ (hv1 : v1 < 4294967296) ⦃v2 : Nat⦄ (hv2 : v2 < 2) (hu3 : ev_isL u3 = false) ⦃x : Nat × wq_F⦄ (h : r16 F v1 v2 = some x), wq (wq_cf (d + 3)) (ev_un al_mX12_parameters.2.2.2.2) (some .boolean) 16 [36893488147419103232, v1, v2, u3] [] wm_sh F 0 0 (wkZ wm_T wm_sh x)) : ∀ ⦃u3 : Nat⦄ ⦃F : wq_F⦄ (hT : wm_T F) ⦃v1 : Nat⦄ (hv1 : v1 < 4294967296) ⦃v2 : Nat⦄ (hv2 : v2 < 2) (hu3 : ev_isL u3 = false) ⦃x : Nat × wq_F⦄ (h : dk_254_16b n r16 F v1 v2 = some x), wq (wq_cf (d + 3)) (ev_un al_mX12_parameters.2.2.2.2) (some .boolean) 16 [36893488147419103232, v1, v2, u3] [] wm_sh F 0 0 (wkZ wm_T wm_sh x) := by
  intro u3 F hT v1 hv1 v2 hv2 hu3 x h
  unfold dk_254_16b at h
  refine wq_iload_n rfl rfl (wm_zlt hv2) ?_
  refine wq_if_eq rfl rfl (wm_zlt hv2) (fun h1 => ?_) (fun h1 => ?_)
  · replace h := od_pos h h1
    refine wq_aload_n rfl rfl rfl ?_
    refine wq_bipush rfl rfl ?_
    obtain ⟨y2, e3, h⟩ := od_bindE h
    refine wd_virtZ (q := 0) (y := y2) (as := [36893488147419103232, 41]) rfl rfl rfl (by decide) (Nat.le_of_ble_eq_true rfl) (Nat.le_of_ble_eq_true rfl) rfl (Nat.le_of_ble_eq_true rfl) rfl (dkT_213 hT (by decide) e3) (fun p4 T5 => ?_)
    exact wq_iret rfl (wm_zlt p4) (Nat.blt_eq.mpr p4) (wkOZ h T5 p4)
  · replace h := od_neg h h1
    refine wq_aload_n rfl rfl rfl ?_
    refine wq_sipush rfl rfl ?_
    obtain ⟨y6, e7, h⟩ := od_bindE h
    refine wd_virtZ (q := 0) (y := y6) (as := [36893488147419103232, 301]) rfl rfl rfl (by decide) (Nat.le_of_ble_eq_true rfl) (Nat.le_of_ble_eq_true rfl) rfl (Nat.le_of_ble_eq_true rfl) rfl (dkT_36 hT (by decide) e7) (fun p8 T9 => ?_)
    refine wq_if_eq rfl rfl (wm_zlt p8) (fun h10 => ?_) (fun h10 => ?_)
    · replace h := od_pos h h10
      refine wq_aload_n rfl rfl rfl ?_
      refine wm_getR (v := 36893488147419103241) rfl (by decide) (T9.r 21 8 rfl) ?_
      refine wq_aload_n rfl rfl rfl ?_
      refine wm_getI rfl (by decide) ?_
      obtain ⟨g11, h⟩ := od_gE h
      refine wq_iaload (q := 9) (n := 1502) rfl rfl (by decide) g11 (by decide) ?_
      refine wq_iconst rfl rfl ?_
      refine wq_ic_eq rfl rfl (T9.ai (k := 9) rfl g11) (wm_zlt (by decide)) (fun h12 => ?_) (fun h12 => ?_)
      · replace h := od_pos h h12
        refine wq_aload_n rfl rfl rfl ?_
        refine wq_aload_n rfl rfl rfl ?_
        obtain ⟨y13, e14, h⟩ := od_bindE h
        refine wd_virtI (q := 0) (y := y13) (as := [36893488147419103232]) rfl rfl rfl (by decide) (Nat.le_of_ble_eq_true rfl) (Nat.le_of_ble_eq_true rfl) rfl (Nat.le_of_ble_eq_true rfl) rfl (dkT_210 T9 e14) (fun p15 T16 => ?_)
        obtain ⟨y17, e18, h⟩ := od_bindE h
        refine wd_virtI (q := 0) (y := y17) (as := [36893488147419103232, y13.1]) rfl rfl rfl (by decide) (Nat.le_of_ble_eq_true rfl) (Nat.le_of_ble_eq_true rfl) rfl (Nat.le_of_ble_eq_true rfl) rfl (dkT_219 T16 p15 e18) (fun p19 T20 => ?_)
        refine wq_istore_n rfl p19 (Nat.le_of_ble_eq_true rfl) (Or.inr ⟨_, rfl, (wq_notL (wm_zlt hv2))⟩) (L' := [36893488147419103232, v1, v2, y17.1]) rfl ?_
        refine wq_iload_n rfl rfl p19 ?_
        refine wq_if_ge rfl rfl p19 (fun h21 => ?_) (fun h21 => ?_)
        · replace h := od_neg h (Nat.not_le.mpr h21)
          refine wq_aload_n rfl rfl rfl ?_
          refine wq_aload_n rfl rfl rfl ?_
          refine wm_getR (v := 36893488147419103243) rfl (by decide) (T20.r 23 10 rfl) ?_
          refine wq_aload_n rfl rfl rfl ?_
          refine wm_getI rfl (by decide) ?_
          obtain ⟨g22, h⟩ := od_gE h
          refine wq_laload (q := 11) (n := 1502) rfl rfl (by decide) g22 (by decide) ?_
          obtain ⟨y23, e24, h⟩ := od_letE h
          refine wq_top e24.symm ?_
          have p25 : ev_isL y23 = true := wd_ge e24 (wm_al_L (T20.al (k := 11) rfl g22))
          refine wq_l2i rfl p25 ?_
          refine wq_iload_n rfl rfl p19 ?_
          obtain ⟨y26, e27, h⟩ := od_bindE h
          refine wd_virtN (q := 0) (y := y26) (as := [36893488147419103232, ev_oL2i y23, y17.1]) rfl rfl rfl (by decide) (Nat.le_of_ble_eq_true rfl) (Nat.le_of_ble_eq_true rfl) rfl (Nat.le_of_ble_eq_true rfl) rfl (dkT_220 T20 (Nat.mod_lt _ (by decide)) p19 e27) (fun T29 => ?_)
          refine wq_aload_n rfl rfl rfl ?_
          obtain ⟨y30, e31, h⟩ := od_bindE h
          refine wd_virtZ (q := 0) (y := y30) (as := [36893488147419103232]) rfl rfl rfl (by decide) (Nat.le_of_ble_eq_true rfl) (Nat.le_of_ble_eq_true rfl) rfl (Nat.le_of_ble_eq_true rfl) rfl (dkT_212 T29 e31) (fun p32 T33 => ?_)
          refine wq_if_ne rfl rfl (wm_zlt p32) (fun h34 => ?_) (fun h34 => ?_)
          · replace h := od_neg h h34
            refine wq_aload_n rfl rfl rfl ?_
            refine wq_bipush rfl rfl ?_
            obtain ⟨y35, e36, h⟩ := od_bindE h
            refine wd_virtZ (q := 0) (y := y35) (as := [36893488147419103232, 44]) rfl rfl rfl (by decide) (Nat.le_of_ble_eq_true rfl) (Nat.le_of_ble_eq_true rfl) rfl (Nat.le_of_ble_eq_true rfl) rfl (dkT_36 T33 (by decide) e36) (fun p37 T38 => ?_)
            refine wq_istore_n rfl (wm_zlt p37) (Nat.le_of_ble_eq_true rfl) (Or.inr ⟨_, rfl, (wq_notL hv1)⟩) (L' := [36893488147419103232, v1, y35.1, y17.1]) rfl ?_
            refine wq_iload_n rfl rfl (wm_zlt p37) ?_
            refine wq_if_eq rfl rfl (wm_zlt p37) (fun h39 => ?_) (fun h39 => ?_)
            · replace h := od_pos h h39
              refine wq_goto rfl rfl ?_
              exact hr16 T38 hv1 p37 (wq_notL p19) h
            · replace h := od_neg h h39
              refine wq_aload_n rfl rfl rfl ?_
              obtain ⟨y40, e41, h⟩ := od_bindE h
              refine wd_virtZ (q := 0) (y := y40) (as := [36893488147419103232]) rfl rfl rfl (by decide) (Nat.le_of_ble_eq_true rfl) (Nat.le_of_ble_eq_true rfl) rfl (Nat.le_of_ble_eq_true rfl) rfl (dkT_212 T38 e41) (fun p42 T43 => ?_)
              refine wq_if_ne rfl rfl (wm_zlt p42) (fun h44 => ?_) (fun h44 => ?_)
              · replace h := od_neg h h44
                refine wq_goto rfl rfl ?_
                exact hr16 T43 hv1 p37 (wq_notL p19) h
              · replace h := od_pos h h44
                refine wq_iconst rfl rfl ?_
                exact wq_iret rfl (wm_zlt (by decide)) (Nat.blt_eq.mpr (by decide)) (wkOZ h T43 (by decide))
          · replace h := od_pos h h34
            refine wq_iconst rfl rfl ?_
            exact wq_iret rfl (wm_zlt (by decide)) (Nat.blt_eq.mpr (by decide)) (wkOZ h T33 (by decide))
        · replace h := od_pos h h21
          refine wq_iconst rfl rfl ?_
          exact wq_iret rfl (wm_zlt (by decide)) (Nat.blt_eq.mpr (by decide)) (wkOZ h T20 (by decide))
      · replace h := od_neg h h12
        refine wq_aload_n rfl rfl rfl ?_
        obtain ⟨y45, e46, h⟩ := od_bindE h
        refine wd_virtZ (q := 0) (y := y45) (as := [36893488147419103232]) rfl rfl rfl (by decide) (Nat.le_of_ble_eq_true rfl) (Nat.le_of_ble_eq_true rfl) rfl (Nat.le_of_ble_eq_true rfl) rfl (dkT_211 T9 e46) (fun p47 T48 => ?_)
        exact wq_iret rfl (wm_zlt p47) (Nat.blt_eq.mpr p47) (wkOZ h T48 p47)
    · replace h := od_neg h h10
      refine wq_aload_n rfl rfl rfl ?_
      refine wm_getR (v := 36893488147419103248) rfl (by decide) (T9.r 30 15 rfl) ?_
      refine wq_iload_n rfl rfl hv1 ?_
      refine wq_iconst rfl rfl ?_
      obtain ⟨g49, h⟩ := od_gE h
      obtain ⟨F50, e51, h⟩ := od_upE h
      refine wd_zastore (q := 16) (n := 51) rfl rfl (by decide) g49 (by decide) (by decide) e51 ?_
      have T52 : wm_T F50 := wd_T e51 (T9.ua (k := 16) (kd := 1002) (n := 51) (i := v1) (v := 1) rfl (by decide) g49 (show 1 < 2 from (by decide)))
      refine wq_aload_n rfl rfl rfl ?_
      obtain ⟨y53, e54, h⟩ := od_bindE h
      refine wd_virtZ (q := 0) (y := y53) (as := [36893488147419103232]) rfl rfl rfl (by decide) (Nat.le_of_ble_eq_true rfl) (Nat.le_of_ble_eq_true rfl) rfl (Nat.le_of_ble_eq_true rfl) rfl (dkT_212 T52 e54) (fun p55 T56 => ?_)
      refine wq_if_eq rfl rfl (wm_zlt p55) (fun h57 => ?_) (fun h57 => ?_)
      · replace h := od_pos h h57
        refine wq_iconst rfl rfl ?_
        exact wq_iret rfl (wm_zlt (by decide)) (Nat.blt_eq.mpr (by decide)) (wkOZ h T56 (by decide))
      · replace h := od_neg h h57
        refine wq_aload_n rfl rfl rfl ?_
        refine wq_bipush rfl rfl ?_
        obtain ⟨y58, e59, h⟩ := od_bindE h
        refine wd_virtZ (q := 0) (y := y58) (as := [36893488147419103232, 41]) rfl rfl rfl (by decide) (Nat.le_of_ble_eq_true rfl) (Nat.le_of_ble_eq_true rfl) rfl (Nat.le_of_ble_eq_true rfl) rfl (dkT_213 T56 (by decide) e59) (fun p60 T61 => ?_)
        refine wq_if_eq rfl rfl (wm_zlt p60) (fun h62 => ?_) (fun h62 => ?_)
        · replace h := od_pos h h62
          refine wq_iconst rfl rfl ?_
          exact wq_iret rfl (wm_zlt (by decide)) (Nat.blt_eq.mpr (by decide)) (wkOZ h T61 (by decide))
        · replace h := od_neg h h62
          refine wq_iconst rfl rfl ?_
          refine wq_goto rfl rfl ?_
          exact wq_iret rfl (wm_zlt (by decide)) (Nat.blt_eq.mpr (by decide)) (wkOZ h T61 (by decide))
def dk_254_16 (n : Nat) : Nat → wq_F → Nat → Nat → Option (Nat × wq_F)
  | 0 => fun _ _ _ => none
  | g + 1 => dk_254_16b n (dk_254_16 n g)
theorem dk_254_16T {d n : Nat} : ∀ g : Nat, ∀ ⦃u3 : Nat⦄ ⦃F : wq_F⦄ (hT : wm_T F) ⦃v1 : Nat⦄ (hv1 : v1 < 4294967296) ⦃v2 : Nat⦄ (hv2 : v2 < 2) (hu3 : ev_isL u3 = false) ⦃x : Nat × wq_F⦄ (h : dk_254_16 n g F v1 v2 = some x), wq (wq_cf (d + 3)) (ev_un al_mX12_parameters.2.2.2.2) (some .boolean) 16 [36893488147419103232, v1, v2, u3] [] wm_sh F 0 0 (wkZ wm_T wm_sh x)
  | 0 => by
    intro u3 F hT v1 hv1 v2 hv2 hu3 x h
    cases h
  | g + 1 => dk_254_16bT (dk_254_16T g)
/-- X12_parameters -/
def dk_254 (n : Nat) (F : wq_F) (a0 : Nat) : Option (Nat × wq_F) :=
  (dk_36 F 41).bind fun y1 =>
  if y1.1 = 0 then
    dk_254_16 n n y1.2 a0 1
  else
    (dk_212 y1.2).bind fun y6 =>
    some (y6.1, y6.2)
theorem dkT_254 {d n : Nat} {F : wq_F} (hT : wm_T F) {a0 : Nat} (ha0 : a0 < 4294967296) {x : Nat × wq_F} (h : dk_254 n F a0 = some x) : mq (d + 3 + 1) 254 [36893488147419103232, a0] wm_sh F (wkZ wm_T wm_sh x) := by
  have e : ev_ent [36893488147419103232, a0] = [36893488147419103232, a0] := by
    show 36893488147419103232 :: ev_ent [a0] = _
    rw [wm_entI ha0]
    rfl
  refine mq_of (maxL := 4) (rt := (some .boolean)) (code := (ev_un al_mX12_parameters.2.2.2.2)) (L := [36893488147419103232, a0, 73786976294838206464, 73786976294838206464]) rfl (by rw [e]; exact Nat.le_of_ble_eq_true rfl) (by rw [e]; rfl) ?_
  unfold dk_254 at h
  refine wq_aload_n rfl rfl rfl ?_
  refine wq_bipush rfl rfl ?_
  obtain ⟨y1, e2, h⟩ := od_bindE h
  refine wd_virtZ (q := 0) (y := y1) (as := [36893488147419103232, 41]) rfl rfl rfl (by decide) (Nat.le_of_ble_eq_true rfl) (Nat.le_of_ble_eq_true rfl) rfl (Nat.le_of_ble_eq_true rfl) rfl (dkT_36 hT (by decide) e2) (fun p3 T4 => ?_)
  refine wq_if_eq rfl rfl (wm_zlt p3) (fun h5 => ?_) (fun h5 => ?_)
  · replace h := od_pos h h5
    refine wq_iconst rfl rfl ?_
    refine wq_istore_n rfl (wm_zlt (by decide)) (Nat.le_of_ble_eq_true rfl) (Or.inr ⟨_, rfl, (wq_notL ha0)⟩) (L' := [36893488147419103232, a0, 1, 73786976294838206464]) rfl ?_
    exact dk_254_16T n T4 ha0 (by decide) rfl h
  · replace h := od_neg h h5
    refine wq_aload_n rfl rfl rfl ?_
    obtain ⟨y6, e7, h⟩ := od_bindE h
    refine wd_virtZ (q := 0) (y := y6) (as := [36893488147419103232]) rfl rfl rfl (by decide) (Nat.le_of_ble_eq_true rfl) (Nat.le_of_ble_eq_true rfl) rfl (Nat.le_of_ble_eq_true rfl) rfl (dkT_212 T4 e7) (fun p8 T9 => ?_)
    exact wq_iret rfl (wm_zlt p8) (Nat.blt_eq.mpr p8) (wkOZ h T9 p8)
def dk_253_175 (n : Nat) (F : wq_F) (v2 : Nat) (v3 : Nat) : Option (Nat × wq_F) :=
  (dk_212 F).bind fun y1 =>
  if y1.1 = 0 then
    some (0, y1.2)
  else
    (dk_254 n y1.2 v3).bind fun y6 =>
    if y6.1 = 0 then
      some (0, y6.2)
    else
      od_g (v3 < 51) <|
      od_g (v3 < 51) <|
      od_up y6.2 13 v3 (y6.2 14 v3) fun F13 =>
      (dk_31 F13 20 v2 v3 0).bind fun y16 =>
      (dk_31 y16.2 0 0 0 0).bind fun y20 =>
      some (1, y20.2)
theorem dk_253_175T {d n : Nat} : ∀ ⦃u1 : Nat⦄ ⦃u4 : Nat⦄ ⦃F : wq_F⦄ (hT : wm_T F) ⦃v2 : Nat⦄ (hv2 : v2 < 4294967296) ⦃v3 : Nat⦄ (hv3 : v3 < 4294967296) (hu1 : ev_isL u1 = false) (hu4 : ev_isL u4 = false) ⦃x : Nat × wq_F⦄ (h : dk_253_175 n F v2 v3 = some x), wq (wq_cf (d + 4)) (ev_un al_mX12_body.2.2.2.2) (some .boolean) 175 [36893488147419103232, u1, v2, v3, u4] [] wm_sh F 0 0 (wkZ wm_T wm_sh x) := by
  intro u1 u4 F hT v2 hv2 v3 hv3 hu1 hu4 x h
  unfold dk_253_175 at h
  refine wq_aload_n rfl rfl rfl ?_
  obtain ⟨y1, e2, h⟩ := od_bindE h
  refine wd_virtZ (q := 0) (y := y1) (as := [36893488147419103232]) rfl rfl rfl (by decide) (Nat.le_of_ble_eq_true rfl) (Nat.le_of_ble_eq_true rfl) rfl (Nat.le_of_ble_eq_true rfl) rfl (dkT_212 hT e2) (fun p3 T4 => ?_)
  refine wq_if_eq rfl rfl (wm_zlt p3) (fun h5 => ?_) (fun h5 => ?_)
  · replace h := od_pos h h5
    refine wq_iconst rfl rfl ?_
    exact wq_iret rfl (wm_zlt (by decide)) (Nat.blt_eq.mpr (by decide)) (wkOZ h T4 (by decide))
  · replace h := od_neg h h5
    refine wq_aload_n rfl rfl rfl ?_
    refine wq_iload_n rfl rfl hv3 ?_
    obtain ⟨y6, e7, h⟩ := od_bindE h
    refine wd_virtZ (q := 0) (y := y6) (as := [36893488147419103232, v3]) rfl rfl rfl (by decide) (Nat.le_of_ble_eq_true rfl) (Nat.le_of_ble_eq_true rfl) rfl (Nat.le_of_ble_eq_true rfl) rfl (dkT_254 T4 hv3 e7) (fun p8 T9 => ?_)
    refine wq_if_ne rfl rfl (wm_zlt p8) (fun h10 => ?_) (fun h10 => ?_)
    · replace h := od_neg h h10
      refine wq_aload_n rfl rfl rfl ?_
      refine wm_getR (v := 36893488147419103245) rfl (by decide) (T9.r 27 12 rfl) ?_
      refine wq_iload_n rfl rfl hv3 ?_
      refine wq_aload_n rfl rfl rfl ?_
      refine wm_getR (v := 36893488147419103246) rfl (by decide) (T9.r 28 13 rfl) ?_
      refine wq_iload_n rfl rfl hv3 ?_
      obtain ⟨g11, h⟩ := od_gE h
      refine wq_iaload (q := 14) (n := 51) rfl rfl (by decide) g11 (by decide) ?_
      obtain ⟨g12, h⟩ := od_gE h
      obtain ⟨F13, e14, h⟩ := od_upE h
      refine wd_iastore (q := 13) (n := 51) rfl rfl (by decide) g12 (by decide) (T9.ai (k := 14) rfl g11) e14 ?_
      have T15 : wm_T F13 := wd_T e14 (T9.ua (k := 13) (kd := 1000) (n := 51) (i := v3) (v := y6.2 14 v3) rfl (by decide) g12 (show y6.2 14 v3 < 4294967296 from (T9.ai (k := 14) rfl g11)))
      refine wq_aload_n rfl rfl rfl ?_
      refine wq_bipush rfl rfl ?_
      refine wq_iload_n rfl rfl hv2 ?_
      refine wq_iload_n rfl rfl hv3 ?_
      refine wq_iconst rfl rfl ?_
      obtain ⟨y16, e17, h⟩ := od_bindE h
      refine wd_virtN (q := 0) (y := y16) (as := [36893488147419103232, 20, v2, v3, 0]) rfl rfl rfl (by decide) (Nat.le_of_ble_eq_true rfl) (Nat.le_of_ble_eq_true rfl) rfl (Nat.le_of_ble_eq_true rfl) rfl (dkT_31 T15 (by decide) hv2 hv3 (wm_zlt (by decide)) e17) (fun T19 => ?_)
      refine wq_aload_n rfl rfl rfl ?_
      refine wq_iconst rfl rfl ?_
      refine wq_iconst rfl rfl ?_
      refine wq_iconst rfl rfl ?_
      refine wq_iconst rfl rfl ?_
      obtain ⟨y20, e21, h⟩ := od_bindE h
      refine wd_virtN (q := 0) (y := y20) (as := [36893488147419103232, 0, 0, 0, 0]) rfl rfl rfl (by decide) (Nat.le_of_ble_eq_true rfl) (Nat.le_of_ble_eq_true rfl) rfl (Nat.le_of_ble_eq_true rfl) rfl (dkT_31 T19 (wm_zlt (by decide)) (wm_zlt (by decide)) (wm_zlt (by decide)) (wm_zlt (by decide)) e21) (fun T23 => ?_)
      refine wq_iconst rfl rfl ?_
      exact wq_iret rfl (wm_zlt (by decide)) (Nat.blt_eq.mpr (by decide)) (wkOZ h T23 (by decide))
    · replace h := od_pos h h10
      refine wq_iconst rfl rfl ?_
      exact wq_iret rfl (wm_zlt (by decide)) (Nat.blt_eq.mpr (by decide)) (wkOZ h T9 (by decide))
/-- X12_body -/
def dk_253 (n : Nat) (F : wq_F) (a0 : Nat) : Option (Nat × wq_F) :=
  (dk_36 F 40).bind fun y1 =>
  if y1.1 = 0 then
    (dk_211 y1.2).bind fun y91 =>
    some (y91.1, y91.2)
  else
    if (y1.2 0 34) = 50 then
      (dk_210 y1.2).bind fun y83 =>
      (dk_209 y83.2 3 y83.1).bind fun y87 =>
      some (y87.1, y87.2)
    else
      (dk_30 y1.2 21 0 0 0).bind fun y7 =>
      od_let (((y7.2 0 34) + 1) % 4294967296) fun y11 =>
      od_up y7.2 0 34 y11 fun F14 =>
      od_let (((F14 0 53) + 1) % 4294967296) fun y17 =>
      od_up F14 0 53 y17 fun F20 =>
      od_g (F20 0 53 < 52) <|
      od_up F20 31 (F20 0 53) (F20 0 50) fun F24 =>
      od_g (F24 0 53 < 52) <|
      od_up F24 32 (F24 0 53) (y7.2 0 34) fun F28 =>
      od_g (y7.2 0 34 < 51) <|
      od_up F28 14 (y7.2 0 34) 0 fun F32 =>
      od_g (y7.2 0 34 < 51) <|
      od_up F32 15 (y7.2 0 34) 0 fun F36 =>
      od_g (y7.2 0 34 < 51) <|
      od_up F36 16 (y7.2 0 34) 0 fun F40 =>
      (dk_215 F40).bind fun y43 =>
      od_g (y7.2 0 34 < 51) <|
      od_up y43.2 17 (y7.2 0 34) y43.1 fun F48 =>
      od_g (y7.2 0 34 < 51) <|
      od_up F48 12 (y7.2 0 34) (F48 0 41) fun F52 =>
      (dk_30 F52 0 0 0 0).bind fun y55 =>
      if 0 < a0 ∧ a0 < 2147483648 then
        od_up y55.2 0 20 0 fun F60 =>
        (dk_21 n F60 18446744075645578342).bind fun y63 =>
        (dk_22 n y63.2 0).bind fun y67 =>
        (dk_210 y67.2).bind fun y71 =>
        (dk_219 y71.2 y71.1).bind fun y75 =>
        (dk_220 y75.2 y67.1 y75.1).bind fun y79 =>
        dk_253_175 n y79.2 y7.1 (y7.2 0 34)
      else
        dk_253_175 n y55.2 y7.1 (y7.2 0 34)
theorem dkT_253 {d n : Nat} {F : wq_F} (hT : wm_T F) {a0 : Nat} (ha0 : a0 < 4294967296) {x : Nat × wq_F} (h : dk_253 n F a0 = some x) : mq (d + 4 + 1) 253 [36893488147419103232, a0] wm_sh F (wkZ wm_T wm_sh x) := by
  have e : ev_ent [36893488147419103232, a0] = [36893488147419103232, a0] := by
    show 36893488147419103232 :: ev_ent [a0] = _
    rw [wm_entI ha0]
    rfl
  refine mq_of (maxL := 5) (rt := (some .boolean)) (code := (ev_un al_mX12_body.2.2.2.2)) (L := [36893488147419103232, a0, 73786976294838206464, 73786976294838206464, 73786976294838206464]) rfl (by rw [e]; exact Nat.le_of_ble_eq_true rfl) (by rw [e]; rfl) ?_
  unfold dk_253 at h
  refine wq_aload_n rfl rfl rfl ?_
  refine wq_bipush rfl rfl ?_
  obtain ⟨y1, e2, h⟩ := od_bindE h
  refine wd_virtZ (q := 0) (y := y1) (as := [36893488147419103232, 40]) rfl rfl rfl (by decide) (Nat.le_of_ble_eq_true rfl) (Nat.le_of_ble_eq_true rfl) rfl (Nat.le_of_ble_eq_true rfl) rfl (dkT_36 hT (by decide) e2) (fun p3 T4 => ?_)
  refine wq_if_ne rfl rfl (wm_zlt p3) (fun h5 => ?_) (fun h5 => ?_)
  · replace h := od_neg h h5
    refine wq_aload_n rfl rfl rfl ?_
    refine wm_getI rfl (by decide) ?_
    refine wq_bipush rfl rfl ?_
    refine wq_ic_ne rfl rfl (T4.i 34 rfl) (by decide) (fun h6 => ?_) (fun h6 => ?_)
    · replace h := od_neg h h6
      refine wq_aload_n rfl rfl rfl ?_
      refine wq_bipush rfl rfl ?_
      refine wq_iconst rfl rfl ?_
      refine wq_iconst rfl rfl ?_
      refine wq_iconst rfl rfl ?_
      obtain ⟨y7, e8, h⟩ := od_bindE h
      refine wd_virtI (q := 0) (y := y7) (as := [36893488147419103232, 21, 0, 0, 0]) rfl rfl rfl (by decide) (Nat.le_of_ble_eq_true rfl) (Nat.le_of_ble_eq_true rfl) rfl (Nat.le_of_ble_eq_true rfl) rfl (dkT_30 T4 (by decide) (wm_zlt (by decide)) (wm_zlt (by decide)) (wm_zlt (by decide)) e8) (fun p9 T10 => ?_)
      refine wq_istore_n rfl p9 (Nat.le_of_ble_eq_true rfl) (Or.inr ⟨_, rfl, (wq_notL ha0)⟩) (L' := [36893488147419103232, a0, y7.1, 73786976294838206464, 73786976294838206464]) rfl ?_
      refine wq_aload_n rfl rfl rfl ?_
      refine wm_getI rfl (by decide) ?_
      refine wq_istore_n rfl (T10.i 34 rfl) (Nat.le_of_ble_eq_true rfl) (Or.inr ⟨_, rfl, (wq_notL p9)⟩) (L' := [36893488147419103232, a0, y7.1, y7.2 0 34, 73786976294838206464]) rfl ?_
      refine wq_aload_n rfl rfl rfl ?_
      refine wq_dup rfl rfl ?_
      refine wm_getI rfl (by decide) ?_
      refine wq_iconst rfl rfl ?_
      refine wq_iaddZ rfl (T10.i 34 rfl) (wm_zlt (by decide)) (z := ((y7.2 0 34) + 1) % 4294967296) rfl ?_
      obtain ⟨y11, e12, h⟩ := od_letE h
      refine wq_top e12.symm ?_
      have p13 : y11 < 4294967296 := wd_lt e12 (Nat.mod_lt _ (by decide))
      obtain ⟨F14, e15, h⟩ := od_upE h
      refine wmE_put rfl (by decide) (wq_I p13) e15 ?_
      have T16 : wm_T F14 := wd_T e15 (T10.uf (f := 34) (c := 0) (v := y11) rfl (show y11 < 4294967296 from p13))
      refine wq_aload_n rfl rfl rfl ?_
      refine wq_dup rfl rfl ?_
      refine wm_getI rfl (by decide) ?_
      refine wq_iconst rfl rfl ?_
      refine wq_iaddZ rfl (T16.i 53 rfl) (wm_zlt (by decide)) (z := ((F14 0 53) + 1) % 4294967296) rfl ?_
      obtain ⟨y17, e18, h⟩ := od_letE h
      refine wq_top e18.symm ?_
      have p19 : y17 < 4294967296 := wd_lt e18 (Nat.mod_lt _ (by decide))
      obtain ⟨F20, e21, h⟩ := od_upE h
      refine wmE_put rfl (by decide) (wq_I p19) e21 ?_
      have T22 : wm_T F20 := wd_T e21 (T16.uf (f := 53) (c := 0) (v := y17) rfl (show y17 < 4294967296 from p19))
      refine wq_aload_n rfl rfl rfl ?_
      refine wm_getR (v := 36893488147419103263) rfl (by decide) (T22.r 51 30 rfl) ?_
      refine wq_aload_n rfl rfl rfl ?_
      refine wm_getI rfl (by decide) ?_
      refine wq_aload_n rfl rfl rfl ?_
      refine wm_getI rfl (by decide) ?_
      obtain ⟨g23, h⟩ := od_gE h
      obtain ⟨F24, e25, h⟩ := od_upE h
      refine wd_iastore (q := 31) (n := 52) rfl rfl (by decide) g23 (by decide) (T22.i 50 rfl) e25 ?_
      have T26 : wm_T F24 := wd_T e25 (T22.ua (k := 31) (kd := 1000) (n := 52) (i := F20 0 53) (v := F20 0 50) rfl (by decide) g23 (show F20 0 50 < 4294967296 from (T22.i 50 rfl)))
      refine wq_aload_n rfl rfl rfl ?_
      refine wm_getR (v := 36893488147419103264) rfl (by decide) (T26.r 52 31 rfl) ?_
      refine wq_aload_n rfl rfl rfl ?_
      refine wm_getI rfl (by decide) ?_
      refine wq_iload_n rfl rfl (T10.i 34 rfl) ?_
      obtain ⟨g27, h⟩ := od_gE h
      obtain ⟨F28, e29, h⟩ := od_upE h
      refine wd_iastore (q := 32) (n := 52) rfl rfl (by decide) g27 (by decide) (T10.i 34 rfl) e29 ?_
      have T30 : wm_T F28 := wd_T e29 (T26.ua (k := 32) (kd := 1000) (n := 52) (i := F24 0 53) (v := y7.2 0 34) rfl (by decide) g27 (show y7.2 0 34 < 4294967296 from (T10.i 34 rfl)))
      refine wq_aload_n rfl rfl rfl ?_
      refine wm_getR (v := 36893488147419103246) rfl (by decide) (T30.r 28 13 rfl) ?_
      refine wq_iload_n rfl rfl (T10.i 34 rfl) ?_
      refine wq_iconst rfl rfl ?_
      obtain ⟨g31, h⟩ := od_gE h
      obtain ⟨F32, e33, h⟩ := od_upE h
      refine wd_iastore (q := 14) (n := 51) rfl rfl (by decide) g31 (by decide) (wm_zlt (by decide)) e33 ?_
      have T34 : wm_T F32 := wd_T e33 (T30.ua (k := 14) (kd := 1000) (n := 51) (i := y7.2 0 34) (v := 0) rfl (by decide) g31 (show 0 < 4294967296 from (wm_zlt (by decide))))
      refine wq_aload_n rfl rfl rfl ?_
      refine wm_getR (v := 36893488147419103247) rfl (by decide) (T34.r 29 14 rfl) ?_
      refine wq_iload_n rfl rfl (T10.i 34 rfl) ?_
      refine wq_iconst rfl rfl ?_
      obtain ⟨g35, h⟩ := od_gE h
      obtain ⟨F36, e37, h⟩ := od_upE h
      refine wd_iastore (q := 15) (n := 51) rfl rfl (by decide) g35 (by decide) (wm_zlt (by decide)) e37 ?_
      have T38 : wm_T F36 := wd_T e37 (T34.ua (k := 15) (kd := 1000) (n := 51) (i := y7.2 0 34) (v := 0) rfl (by decide) g35 (show 0 < 4294967296 from (wm_zlt (by decide))))
      refine wq_aload_n rfl rfl rfl ?_
      refine wm_getR (v := 36893488147419103248) rfl (by decide) (T38.r 30 15 rfl) ?_
      refine wq_iload_n rfl rfl (T10.i 34 rfl) ?_
      refine wq_iconst rfl rfl ?_
      obtain ⟨g39, h⟩ := od_gE h
      obtain ⟨F40, e41, h⟩ := od_upE h
      refine wd_zastore (q := 16) (n := 51) rfl rfl (by decide) g39 (by decide) (by decide) e41 ?_
      have T42 : wm_T F40 := wd_T e41 (T38.ua (k := 16) (kd := 1002) (n := 51) (i := y7.2 0 34) (v := 0) rfl (by decide) g39 (show 0 < 2 from (by decide)))
      refine wq_aload_n rfl rfl rfl ?_
      refine wm_getR (v := 36893488147419103249) rfl (by decide) (T42.r 31 16 rfl) ?_
      refine wq_iload_n rfl rfl (T10.i 34 rfl) ?_
      refine wq_aload_n rfl rfl rfl ?_
      obtain ⟨y43, e44, h⟩ := od_bindE h
      refine wd_virtI (q := 0) (y := y43) (as := [36893488147419103232]) rfl rfl rfl (by decide) (Nat.le_of_ble_eq_true rfl) (Nat.le_of_ble_eq_true rfl) rfl (Nat.le_of_ble_eq_true rfl) rfl (dkT_215 T42 e44) (fun p45 T46 => ?_)
      obtain ⟨g47, h⟩ := od_gE h
      obtain ⟨F48, e49, h⟩ := od_upE h
      refine wd_iastore (q := 17) (n := 51) rfl rfl (by decide) g47 (by decide) p45 e49 ?_
      have T50 : wm_T F48 := wd_T e49 (T46.ua (k := 17) (kd := 1000) (n := 51) (i := y7.2 0 34) (v := y43.1) rfl (by decide) g47 (show y43.1 < 4294967296 from p45))
      refine wq_aload_n rfl rfl rfl ?_
      refine wm_getR (v := 36893488147419103244) rfl (by decide) (T50.r 26 11 rfl) ?_
      refine wq_iload_n rfl rfl (T10.i 34 rfl) ?_
      refine wq_aload_n rfl rfl rfl ?_
      refine wm_getI rfl (by decide) ?_
      obtain ⟨g51, h⟩ := od_gE h
      obtain ⟨F52, e53, h⟩ := od_upE h
      refine wd_iastore (q := 12) (n := 51) rfl rfl (by decide) g51 (by decide) (T50.i 41 rfl) e53 ?_
      have T54 : wm_T F52 := wd_T e53 (T50.ua (k := 12) (kd := 1000) (n := 51) (i := y7.2 0 34) (v := F48 0 41) rfl (by decide) g51 (show F48 0 41 < 4294967296 from (T50.i 41 rfl)))
      refine wq_aload_n rfl rfl rfl ?_
      refine wq_iconst rfl rfl ?_
      refine wq_iconst rfl rfl ?_
      refine wq_iconst rfl rfl ?_
      refine wq_iconst rfl rfl ?_
      obtain ⟨y55, e56, h⟩ := od_bindE h
      refine wd_virtI (q := 0) (y := y55) (as := [36893488147419103232, 0, 0, 0, 0]) rfl rfl rfl (by decide) (Nat.le_of_ble_eq_true rfl) (Nat.le_of_ble_eq_true rfl) rfl (Nat.le_of_ble_eq_true rfl) rfl (dkT_30 T54 (wm_zlt (by decide)) (wm_zlt (by decide)) (wm_zlt (by decide)) (wm_zlt (by decide)) e56) (fun p57 T58 => ?_)
      refine wq_istore rfl p57 (Nat.le_of_ble_eq_true rfl) (Or.inr ⟨_, rfl, (wq_notL (T10.i 34 rfl))⟩) (L' := [36893488147419103232, a0, y7.1, y7.2 0 34, y55.1]) rfl ?_
      refine wq_iload_n rfl rfl ha0 ?_
      refine wq_if_le rfl rfl ha0 (fun h59 => ?_) (fun h59 => ?_)
      · replace h := od_neg h h59
        exact dk_253_175T T58 p9 (T10.i 34 rfl) (wq_notL ha0) (wq_notL p57) h
      · replace h := od_pos h h59
        refine wq_aload_n rfl rfl rfl ?_
        refine wq_iconst rfl rfl ?_
        obtain ⟨F60, e61, h⟩ := od_upE h
        refine wmE_put rfl (by decide) (wq_I (wm_zlt (by decide))) e61 ?_
        have T62 : wm_T F60 := wd_T e61 (T58.uf (f := 20) (c := 0) (v := 0) rfl (show 0 < 4294967296 from (wm_zlt (by decide))))
        refine wq_aload_n rfl rfl rfl ?_
        refine wq_ldc2 rfl (by decide) ?_
        obtain ⟨y63, e64, h⟩ := od_bindE h
        refine wd_virtN (q := 0) (y := y63) (as := [36893488147419103232, 18446744075645578342]) rfl rfl rfl (by decide) (Nat.le_of_ble_eq_true rfl) (Nat.le_of_ble_eq_true rfl) rfl (Nat.le_of_ble_eq_true rfl) rfl (dkT_21 T62 rfl e64) (fun T66 => ?_)
        refine wq_aload_n rfl rfl rfl ?_
        refine wq_aload_n rfl rfl rfl ?_
        refine wq_iconst rfl rfl ?_
        obtain ⟨y67, e68, h⟩ := od_bindE h
        refine wd_virtI (q := 0) (y := y67) (as := [36893488147419103232, 0]) rfl rfl rfl (by decide) (Nat.le_of_ble_eq_true rfl) (Nat.le_of_ble_eq_true rfl) rfl (Nat.le_of_ble_eq_true rfl) rfl (dkT_22 T66 (wm_zlt (by decide)) e68) (fun p69 T70 => ?_)
        refine wq_aload_n rfl rfl rfl ?_
        refine wq_aload_n rfl rfl rfl ?_
        obtain ⟨y71, e72, h⟩ := od_bindE h
        refine wd_virtI (q := 0) (y := y71) (as := [36893488147419103232]) rfl rfl rfl (by decide) (Nat.le_of_ble_eq_true rfl) (Nat.le_of_ble_eq_true rfl) rfl (Nat.le_of_ble_eq_true rfl) rfl (dkT_210 T70 e72) (fun p73 T74 => ?_)
        obtain ⟨y75, e76, h⟩ := od_bindE h
        refine wd_virtI (q := 0) (y := y75) (as := [36893488147419103232, y71.1]) rfl rfl rfl (by decide) (Nat.le_of_ble_eq_true rfl) (Nat.le_of_ble_eq_true rfl) rfl (Nat.le_of_ble_eq_true rfl) rfl (dkT_219 T74 p73 e76) (fun p77 T78 => ?_)
        obtain ⟨y79, e80, h⟩ := od_bindE h
        refine wd_virtN (q := 0) (y := y79) (as := [36893488147419103232, y67.1, y75.1]) rfl rfl rfl (by decide) (Nat.le_of_ble_eq_true rfl) (Nat.le_of_ble_eq_true rfl) rfl (Nat.le_of_ble_eq_true rfl) rfl (dkT_220 T78 p69 p77 e80) (fun T82 => ?_)
        exact dk_253_175T T82 p9 (T10.i 34 rfl) (wq_notL ha0) (wq_notL p57) h
    · replace h := od_pos h h6
      refine wq_aload_n rfl rfl rfl ?_
      refine wq_iconst rfl rfl ?_
      refine wq_aload_n rfl rfl rfl ?_
      obtain ⟨y83, e84, h⟩ := od_bindE h
      refine wd_virtI (q := 0) (y := y83) (as := [36893488147419103232]) rfl rfl rfl (by decide) (Nat.le_of_ble_eq_true rfl) (Nat.le_of_ble_eq_true rfl) rfl (Nat.le_of_ble_eq_true rfl) rfl (dkT_210 T4 e84) (fun p85 T86 => ?_)
      obtain ⟨y87, e88, h⟩ := od_bindE h
      refine wd_virtZ (q := 0) (y := y87) (as := [36893488147419103232, 3, y83.1]) rfl rfl rfl (by decide) (Nat.le_of_ble_eq_true rfl) (Nat.le_of_ble_eq_true rfl) rfl (Nat.le_of_ble_eq_true rfl) rfl (dkT_209 T86 (by decide) p85 e88) (fun p89 T90 => ?_)
      exact wq_iret rfl (wm_zlt p89) (Nat.blt_eq.mpr p89) (wkOZ h T90 p89)
  · replace h := od_pos h h5
    refine wq_aload_n rfl rfl rfl ?_
    obtain ⟨y91, e92, h⟩ := od_bindE h
    refine wd_virtZ (q := 0) (y := y91) (as := [36893488147419103232]) rfl rfl rfl (by decide) (Nat.le_of_ble_eq_true rfl) (Nat.le_of_ble_eq_true rfl) rfl (Nat.le_of_ble_eq_true rfl) rfl (dkT_211 T4 e92) (fun p93 T94 => ?_)
    exact wq_iret rfl (wm_zlt p93) (Nat.blt_eq.mpr p93) (wkOZ h T94 p93)
/-- X12_bodyEnd -/
def dk_255 (F : wq_F) (a0 : Nat) (a1 : Nat) : Option (Nat × wq_F) :=
  (dk_214 F 6).bind fun y1 =>
  if y1.1 = 0 then
    some (0, y1.2)
  else
    (dk_30 y1.2 14 0 0 0).bind fun y6 =>
    (dk_30 y6.2 38 0 0 0).bind fun y10 =>
    od_g (y10.2 0 53 < 52) <|
    od_up y10.2 0 50 (y10.2 31 (y10.2 0 53)) fun F15 =>
    od_let (((F15 0 53) + (4294967296 - 1)) % 4294967296) fun y18 =>
    od_up F15 0 53 y18 fun F21 =>
    od_g (a0 < 14000) <|
    od_up F21 21 a0 (F21 0 41) fun F25 =>
    (dk_30 F25 25 a1 0 0).bind fun y28 =>
    od_up y28.2 0 64 4294967295 fun F32 =>
    some (1, F32)
theorem dkT_255 {d : Nat} {F : wq_F} (hT : wm_T F) {a0 : Nat} (ha0 : a0 < 4294967296) {a1 : Nat} (ha1 : a1 < 4294967296) {x : Nat × wq_F} (h : dk_255 F a0 a1 = some x) : mq (d + 3 + 1) 255 [36893488147419103232, a0, a1] wm_sh F (wkZ wm_T wm_sh x) := by
  have e : ev_ent [36893488147419103232, a0, a1] = [36893488147419103232, a0, a1] := by
    show 36893488147419103232 :: ev_ent [a0, a1] = _
    rw [wm_entI ha0, wm_entI ha1]
    rfl
  refine mq_of (maxL := 4) (rt := (some .boolean)) (code := (ev_un al_mX12_bodyEnd.2.2.2.2)) (L := [36893488147419103232, a0, a1, 73786976294838206464]) rfl (by rw [e]; exact Nat.le_of_ble_eq_true rfl) (by rw [e]; rfl) ?_
  unfold dk_255 at h
  refine wq_aload_n rfl rfl rfl ?_
  refine wq_bipush rfl rfl ?_
  obtain ⟨y1, e2, h⟩ := od_bindE h
  refine wd_virtZ (q := 0) (y := y1) (as := [36893488147419103232, 6]) rfl rfl rfl (by decide) (Nat.le_of_ble_eq_true rfl) (Nat.le_of_ble_eq_true rfl) rfl (Nat.le_of_ble_eq_true rfl) rfl (dkT_214 hT (by decide) e2) (fun p3 T4 => ?_)
  refine wq_if_ne rfl rfl (wm_zlt p3) (fun h5 => ?_) (fun h5 => ?_)
  · replace h := od_neg h h5
    refine wq_aload_n rfl rfl rfl ?_
    refine wq_bipush rfl rfl ?_
    refine wq_iconst rfl rfl ?_
    refine wq_iconst rfl rfl ?_
    refine wq_iconst rfl rfl ?_
    obtain ⟨y6, e7, h⟩ := od_bindE h
    refine wd_virtI (q := 0) (y := y6) (as := [36893488147419103232, 14, 0, 0, 0]) rfl rfl rfl (by decide) (Nat.le_of_ble_eq_true rfl) (Nat.le_of_ble_eq_true rfl) rfl (Nat.le_of_ble_eq_true rfl) rfl (dkT_30 T4 (by decide) (wm_zlt (by decide)) (wm_zlt (by decide)) (wm_zlt (by decide)) e7) (fun p8 T9 => ?_)
    refine wq_istore_n rfl p8 (Nat.le_of_ble_eq_true rfl) (Or.inr ⟨_, rfl, (wq_notL ha1)⟩) (L' := [36893488147419103232, a0, a1, y6.1]) rfl ?_
    refine wq_aload_n rfl rfl rfl ?_
    refine wq_bipush rfl rfl ?_
    refine wq_iconst rfl rfl ?_
    refine wq_iconst rfl rfl ?_
    refine wq_iconst rfl rfl ?_
    obtain ⟨y10, e11, h⟩ := od_bindE h
    refine wd_virtI (q := 0) (y := y10) (as := [36893488147419103232, 38, 0, 0, 0]) rfl rfl rfl (by decide) (Nat.le_of_ble_eq_true rfl) (Nat.le_of_ble_eq_true rfl) rfl (Nat.le_of_ble_eq_true rfl) rfl (dkT_30 T9 (by decide) (wm_zlt (by decide)) (wm_zlt (by decide)) (wm_zlt (by decide)) e11) (fun p12 T13 => ?_)
    refine wq_istore_n rfl p12 (Nat.le_of_ble_eq_true rfl) (Or.inr ⟨_, rfl, (wq_notL ha1)⟩) (L' := [36893488147419103232, a0, a1, y10.1]) rfl ?_
    refine wq_aload_n rfl rfl rfl ?_
    refine wq_aload_n rfl rfl rfl ?_
    refine wm_getR (v := 36893488147419103263) rfl (by decide) (T13.r 51 30 rfl) ?_
    refine wq_aload_n rfl rfl rfl ?_
    refine wm_getI rfl (by decide) ?_
    obtain ⟨g14, h⟩ := od_gE h
    refine wq_iaload (q := 31) (n := 52) rfl rfl (by decide) g14 (by decide) ?_
    obtain ⟨F15, e16, h⟩ := od_upE h
    refine wmE_put rfl (by decide) (wq_I (T13.ai (k := 31) rfl g14)) e16 ?_
    have T17 : wm_T F15 := wd_T e16 (T13.uf (f := 50) (c := 0) (v := y10.2 31 (y10.2 0 53)) rfl (show y10.2 31 (y10.2 0 53) < 4294967296 from (T13.ai (k := 31) rfl g14)))
    refine wq_aload_n rfl rfl rfl ?_
    refine wq_dup rfl rfl ?_
    refine wm_getI rfl (by decide) ?_
    refine wq_iconst rfl rfl ?_
    refine wq_isubZ rfl (T17.i 53 rfl) (wm_zlt (by decide)) (z := ((F15 0 53) + (4294967296 - 1)) % 4294967296) rfl ?_
    obtain ⟨y18, e19, h⟩ := od_letE h
    refine wq_top e19.symm ?_
    have p20 : y18 < 4294967296 := wd_lt e19 (Nat.mod_lt _ (by decide))
    obtain ⟨F21, e22, h⟩ := od_upE h
    refine wmE_put rfl (by decide) (wq_I p20) e22 ?_
    have T23 : wm_T F21 := wd_T e22 (T17.uf (f := 53) (c := 0) (v := y18) rfl (show y18 < 4294967296 from p20))
    refine wq_aload_n rfl rfl rfl ?_
    refine wm_getR (v := 36893488147419103253) rfl (by decide) (T23.r 36 20 rfl) ?_
    refine wq_iload_n rfl rfl ha0 ?_
    refine wq_aload_n rfl rfl rfl ?_
    refine wm_getI rfl (by decide) ?_
    obtain ⟨g24, h⟩ := od_gE h
    obtain ⟨F25, e26, h⟩ := od_upE h
    refine wd_iastore (q := 21) (n := 14000) rfl rfl (by decide) g24 (by decide) (T23.i 41 rfl) e26 ?_
    have T27 : wm_T F25 := wd_T e26 (T23.ua (k := 21) (kd := 1000) (n := 14000) (i := a0) (v := F21 0 41) rfl (by decide) g24 (show F21 0 41 < 4294967296 from (T23.i 41 rfl)))
    refine wq_aload_n rfl rfl rfl ?_
    refine wq_bipush rfl rfl ?_
    refine wq_iload_n rfl rfl ha1 ?_
    refine wq_iconst rfl rfl ?_
    refine wq_iconst rfl rfl ?_
    obtain ⟨y28, e29, h⟩ := od_bindE h
    refine wd_virtI (q := 0) (y := y28) (as := [36893488147419103232, 25, a1, 0, 0]) rfl rfl rfl (by decide) (Nat.le_of_ble_eq_true rfl) (Nat.le_of_ble_eq_true rfl) rfl (Nat.le_of_ble_eq_true rfl) rfl (dkT_30 T27 (by decide) ha1 (wm_zlt (by decide)) (wm_zlt (by decide)) e29) (fun p30 T31 => ?_)
    refine wq_istore_n rfl p30 (Nat.le_of_ble_eq_true rfl) (Or.inr ⟨_, rfl, (wq_notL ha1)⟩) (L' := [36893488147419103232, a0, a1, y28.1]) rfl ?_
    refine wq_aload_n rfl rfl rfl ?_
    refine wq_iconst rfl rfl ?_
    obtain ⟨F32, e33, h⟩ := od_upE h
    refine wmE_put rfl (by decide) (wq_I (by decide)) e33 ?_
    have T34 : wm_T F32 := wd_T e33 (T31.uf (f := 64) (c := 0) (v := 4294967295) rfl (show 4294967295 < 4294967296 from (by decide)))
    refine wq_iconst rfl rfl ?_
    exact wq_iret rfl (wm_zlt (by decide)) (Nat.blt_eq.mpr (by decide)) (wkOZ h T34 (by decide))
  · replace h := od_pos h h5
    refine wq_iconst rfl rfl ?_
    exact wq_iret rfl (wm_zlt (by decide)) (Nat.blt_eq.mpr (by decide)) (wkOZ h T4 (by decide))
def dk_256_200 (F : wq_F) (v1 : Nat) : Option (Nat × wq_F) :=
  od_let (((F 0 60) + (4294967296 - v1)) % 4294967296) fun y1 =>
  if y1 = 20 then
    (dk_210 F).bind fun y13 =>
    (dk_209 y13.2 3 y13.1).bind fun y17 =>
    some (y17.1, y17.2)
  else
    (dk_31 F 21 v1 0 0).bind fun y5 =>
    (dk_31 y5.2 7 0 0 0).bind fun y9 =>
    some (1, y9.2)
theorem dk_256_200T {d : Nat} : ∀ ⦃u2 : Nat⦄ ⦃F : wq_F⦄ (hT : wm_T F) ⦃v1 : Nat⦄ (hv1 : v1 < 4294967296) (hu2 : ev_isL u2 = false) ⦃x : Nat × wq_F⦄ (h : dk_256_200 F v1 = some x), wq (wq_cf (d + 2)) (ev_un al_mX12_afterChain.2.2.2.2) (some .boolean) 200 [36893488147419103232, v1, u2, 73786976294838206464, 73786976294838206464] [] wm_sh F 0 0 (wkZ wm_T wm_sh x) := by
  intro u2 F hT v1 hv1 hu2 x h
  unfold dk_256_200 at h
  refine wq_aload_n rfl rfl rfl ?_
  refine wm_getI rfl (by decide) ?_
  refine wq_iload_n rfl rfl hv1 ?_
  refine wq_isubZ rfl (hT.i 60 rfl) hv1 (z := ((F 0 60) + (4294967296 - v1)) % 4294967296) rfl ?_
  obtain ⟨y1, e2, h⟩ := od_letE h
  refine wq_top e2.symm ?_
  have p3 : y1 < 4294967296 := wd_lt e2 (Nat.mod_lt _ (by decide))
  refine wq_bipush rfl rfl ?_
  refine wq_ic_ne rfl rfl p3 (by decide) (fun h4 => ?_) (fun h4 => ?_)
  · replace h := od_neg h h4
    refine wq_aload_n rfl rfl rfl ?_
    refine wq_bipush rfl rfl ?_
    refine wq_iload_n rfl rfl hv1 ?_
    refine wq_iconst rfl rfl ?_
    refine wq_iconst rfl rfl ?_
    obtain ⟨y5, e6, h⟩ := od_bindE h
    refine wd_virtN (q := 0) (y := y5) (as := [36893488147419103232, 21, v1, 0, 0]) rfl rfl rfl (by decide) (Nat.le_of_ble_eq_true rfl) (Nat.le_of_ble_eq_true rfl) rfl (Nat.le_of_ble_eq_true rfl) rfl (dkT_31 hT (by decide) hv1 (wm_zlt (by decide)) (wm_zlt (by decide)) e6) (fun T8 => ?_)
    refine wq_aload_n rfl rfl rfl ?_
    refine wq_bipush rfl rfl ?_
    refine wq_iconst rfl rfl ?_
    refine wq_iconst rfl rfl ?_
    refine wq_iconst rfl rfl ?_
    obtain ⟨y9, e10, h⟩ := od_bindE h
    refine wd_virtN (q := 0) (y := y9) (as := [36893488147419103232, 7, 0, 0, 0]) rfl rfl rfl (by decide) (Nat.le_of_ble_eq_true rfl) (Nat.le_of_ble_eq_true rfl) rfl (Nat.le_of_ble_eq_true rfl) rfl (dkT_31 T8 (by decide) (wm_zlt (by decide)) (wm_zlt (by decide)) (wm_zlt (by decide)) e10) (fun T12 => ?_)
    refine wq_iconst rfl rfl ?_
    exact wq_iret rfl (wm_zlt (by decide)) (Nat.blt_eq.mpr (by decide)) (wkOZ h T12 (by decide))
  · replace h := od_pos h h4
    refine wq_aload_n rfl rfl rfl ?_
    refine wq_iconst rfl rfl ?_
    refine wq_aload_n rfl rfl rfl ?_
    obtain ⟨y13, e14, h⟩ := od_bindE h
    refine wd_virtI (q := 0) (y := y13) (as := [36893488147419103232]) rfl rfl rfl (by decide) (Nat.le_of_ble_eq_true rfl) (Nat.le_of_ble_eq_true rfl) rfl (Nat.le_of_ble_eq_true rfl) rfl (dkT_210 hT e14) (fun p15 T16 => ?_)
    obtain ⟨y17, e18, h⟩ := od_bindE h
    refine wd_virtZ (q := 0) (y := y17) (as := [36893488147419103232, 3, y13.1]) rfl rfl rfl (by decide) (Nat.le_of_ble_eq_true rfl) (Nat.le_of_ble_eq_true rfl) rfl (Nat.le_of_ble_eq_true rfl) rfl (dkT_209 T16 (by decide) p15 e18) (fun p19 T20 => ?_)
    exact wq_iret rfl (wm_zlt p19) (Nat.blt_eq.mpr p19) (wkOZ h T20 p19)
def dk_256_32 (F : wq_F) (v1 : Nat) (v2 : Nat) : Option (Nat × wq_F) :=
  if v2 = 0 then
    (dk_211 F).bind fun y75 =>
    some (y75.1, y75.2)
  else
    od_g (F 0 60 < 600) <|
    od_up F 35 (F 0 60) (F 0 61) fun F3 =>
    od_g (F3 0 60 < 600) <|
    od_up F3 36 (F3 0 60) (F3 0 62) fun F7 =>
    od_g (F7 0 60 < 600) <|
    od_up F7 37 (F7 0 60) (F7 0 63) fun F11 =>
    od_let (((F11 0 60) + 1) % 4294967296) fun y14 =>
    od_up F11 0 60 y14 fun F17 =>
    (dk_36 F17 61).bind fun y20 =>
    if y20.1 = 0 then
      (dk_212 y20.2).bind fun y25 =>
      if y25.1 = 0 then
        some (0, y25.2)
      else
        od_g (y25.2 0 25 < 1502) <|
        if (y25.2 9 (y25.2 0 25)) = 1 then
          dk_256_200 y25.2 v1
        else
          (dk_36 y25.2 40).bind fun y32 =>
          if y32.1 = 0 then
            (dk_211 y32.2).bind fun y37 =>
            some (y37.1, y37.2)
          else
            dk_256_200 y32.2 v1
    else
      (dk_215 y20.2).bind fun y41 =>
      (dk_212 y41.2).bind fun y45 =>
      if y45.1 = 0 then
        some (0, y45.2)
      else
        (dk_217 y45.2).bind fun y50 =>
        if y50.1 = 0 then
          (dk_211 y50.2).bind fun y71 =>
          some (y71.1, y71.2)
        else
          (dk_30 y50.2 14 0 0 0).bind fun y55 =>
          (dk_31 y55.2 22 v1 y41.1 0).bind fun y59 =>
          (dk_31 y59.2 14 0 0 0).bind fun y63 =>
          (dk_31 y63.2 3 0 0 0).bind fun y67 =>
          some (1, y67.2)
theorem dk_256_32T {d : Nat} : ∀ ⦃F : wq_F⦄ (hT : wm_T F) ⦃v1 : Nat⦄ (hv1 : v1 < 4294967296) ⦃v2 : Nat⦄ (hv2 : v2 < 2) ⦃x : Nat × wq_F⦄ (h : dk_256_32 F v1 v2 = some x), wq (wq_cf (d + 2)) (ev_un al_mX12_afterChain.2.2.2.2) (some .boolean) 32 [36893488147419103232, v1, v2, 73786976294838206464, 73786976294838206464] [] wm_sh F 0 0 (wkZ wm_T wm_sh x) := by
  intro F hT v1 hv1 v2 hv2 x h
  unfold dk_256_32 at h
  refine wq_iload_n rfl rfl (wm_zlt hv2) ?_
  refine wq_if_ne rfl rfl (wm_zlt hv2) (fun h1 => ?_) (fun h1 => ?_)
  · replace h := od_neg h h1
    refine wq_aload_n rfl rfl rfl ?_
    refine wm_getR (v := 36893488147419103267) rfl (by decide) (hT.r 57 34 rfl) ?_
    refine wq_aload_n rfl rfl rfl ?_
    refine wm_getI rfl (by decide) ?_
    refine wq_aload_n rfl rfl rfl ?_
    refine wm_getI rfl (by decide) ?_
    obtain ⟨g2, h⟩ := od_gE h
    obtain ⟨F3, e4, h⟩ := od_upE h
    refine wd_iastore (q := 35) (n := 600) rfl rfl (by decide) g2 (by decide) (hT.i 61 rfl) e4 ?_
    have T5 : wm_T F3 := wd_T e4 (hT.ua (k := 35) (kd := 1000) (n := 600) (i := F 0 60) (v := F 0 61) rfl (by decide) g2 (show F 0 61 < 4294967296 from (hT.i 61 rfl)))
    refine wq_aload_n rfl rfl rfl ?_
    refine wm_getR (v := 36893488147419103268) rfl (by decide) (T5.r 58 35 rfl) ?_
    refine wq_aload_n rfl rfl rfl ?_
    refine wm_getI rfl (by decide) ?_
    refine wq_aload_n rfl rfl rfl ?_
    refine wm_getI rfl (by decide) ?_
    obtain ⟨g6, h⟩ := od_gE h
    obtain ⟨F7, e8, h⟩ := od_upE h
    refine wd_iastore (q := 36) (n := 600) rfl rfl (by decide) g6 (by decide) (T5.i 62 rfl) e8 ?_
    have T9 : wm_T F7 := wd_T e8 (T5.ua (k := 36) (kd := 1000) (n := 600) (i := F3 0 60) (v := F3 0 62) rfl (by decide) g6 (show F3 0 62 < 4294967296 from (T5.i 62 rfl)))
    refine wq_aload_n rfl rfl rfl ?_
    refine wm_getR (v := 36893488147419103269) rfl (by decide) (T9.r 59 36 rfl) ?_
    refine wq_aload_n rfl rfl rfl ?_
    refine wm_getI rfl (by decide) ?_
    refine wq_aload_n rfl rfl rfl ?_
    refine wm_getI rfl (by decide) ?_
    obtain ⟨g10, h⟩ := od_gE h
    obtain ⟨F11, e12, h⟩ := od_upE h
    refine wd_iastore (q := 37) (n := 600) rfl rfl (by decide) g10 (by decide) (T9.i 63 rfl) e12 ?_
    have T13 : wm_T F11 := wd_T e12 (T9.ua (k := 37) (kd := 1000) (n := 600) (i := F7 0 60) (v := F7 0 63) rfl (by decide) g10 (show F7 0 63 < 4294967296 from (T9.i 63 rfl)))
    refine wq_aload_n rfl rfl rfl ?_
    refine wq_dup rfl rfl ?_
    refine wm_getI rfl (by decide) ?_
    refine wq_iconst rfl rfl ?_
    refine wq_iaddZ rfl (T13.i 60 rfl) (wm_zlt (by decide)) (z := ((F11 0 60) + 1) % 4294967296) rfl ?_
    obtain ⟨y14, e15, h⟩ := od_letE h
    refine wq_top e15.symm ?_
    have p16 : y14 < 4294967296 := wd_lt e15 (Nat.mod_lt _ (by decide))
    obtain ⟨F17, e18, h⟩ := od_upE h
    refine wmE_put rfl (by decide) (wq_I p16) e18 ?_
    have T19 : wm_T F17 := wd_T e18 (T13.uf (f := 60) (c := 0) (v := y14) rfl (show y14 < 4294967296 from p16))
    refine wq_aload_n rfl rfl rfl ?_
    refine wq_bipush rfl rfl ?_
    obtain ⟨y20, e21, h⟩ := od_bindE h
    refine wd_virtZ (q := 0) (y := y20) (as := [36893488147419103232, 61]) rfl rfl rfl (by decide) (Nat.le_of_ble_eq_true rfl) (Nat.le_of_ble_eq_true rfl) rfl (Nat.le_of_ble_eq_true rfl) rfl (dkT_36 T19 (by decide) e21) (fun p22 T23 => ?_)
    refine wq_if_eq rfl rfl (wm_zlt p22) (fun h24 => ?_) (fun h24 => ?_)
    · replace h := od_pos h h24
      refine wq_aload_n rfl rfl rfl ?_
      obtain ⟨y25, e26, h⟩ := od_bindE h
      refine wd_virtZ (q := 0) (y := y25) (as := [36893488147419103232]) rfl rfl rfl (by decide) (Nat.le_of_ble_eq_true rfl) (Nat.le_of_ble_eq_true rfl) rfl (Nat.le_of_ble_eq_true rfl) rfl (dkT_212 T23 e26) (fun p27 T28 => ?_)
      refine wq_if_ne rfl rfl (wm_zlt p27) (fun h29 => ?_) (fun h29 => ?_)
      · replace h := od_neg h h29
        refine wq_aload_n rfl rfl rfl ?_
        refine wm_getR (v := 36893488147419103241) rfl (by decide) (T28.r 21 8 rfl) ?_
        refine wq_aload_n rfl rfl rfl ?_
        refine wm_getI rfl (by decide) ?_
        obtain ⟨g30, h⟩ := od_gE h
        refine wq_iaload (q := 9) (n := 1502) rfl rfl (by decide) g30 (by decide) ?_
        refine wq_iconst rfl rfl ?_
        refine wq_ic_eq rfl rfl (T28.ai (k := 9) rfl g30) (wm_zlt (by decide)) (fun h31 => ?_) (fun h31 => ?_)
        · replace h := od_pos h h31
          exact dk_256_200T T28 hv1 (wq_notL (wm_zlt hv2)) h
        · replace h := od_neg h h31
          refine wq_aload_n rfl rfl rfl ?_
          refine wq_bipush rfl rfl ?_
          obtain ⟨y32, e33, h⟩ := od_bindE h
          refine wd_virtZ (q := 0) (y := y32) (as := [36893488147419103232, 40]) rfl rfl rfl (by decide) (Nat.le_of_ble_eq_true rfl) (Nat.le_of_ble_eq_true rfl) rfl (Nat.le_of_ble_eq_true rfl) rfl (dkT_36 T28 (by decide) e33) (fun p34 T35 => ?_)
          refine wq_if_ne rfl rfl (wm_zlt p34) (fun h36 => ?_) (fun h36 => ?_)
          · replace h := od_neg h h36
            exact dk_256_200T T35 hv1 (wq_notL (wm_zlt hv2)) h
          · replace h := od_pos h h36
            refine wq_aload_n rfl rfl rfl ?_
            obtain ⟨y37, e38, h⟩ := od_bindE h
            refine wd_virtZ (q := 0) (y := y37) (as := [36893488147419103232]) rfl rfl rfl (by decide) (Nat.le_of_ble_eq_true rfl) (Nat.le_of_ble_eq_true rfl) rfl (Nat.le_of_ble_eq_true rfl) rfl (dkT_211 T35 e38) (fun p39 T40 => ?_)
            exact wq_iret rfl (wm_zlt p39) (Nat.blt_eq.mpr p39) (wkOZ h T40 p39)
      · replace h := od_pos h h29
        refine wq_iconst rfl rfl ?_
        exact wq_iret rfl (wm_zlt (by decide)) (Nat.blt_eq.mpr (by decide)) (wkOZ h T28 (by decide))
    · replace h := od_neg h h24
      refine wq_aload_n rfl rfl rfl ?_
      obtain ⟨y41, e42, h⟩ := od_bindE h
      refine wd_virtI (q := 0) (y := y41) (as := [36893488147419103232]) rfl rfl rfl (by decide) (Nat.le_of_ble_eq_true rfl) (Nat.le_of_ble_eq_true rfl) rfl (Nat.le_of_ble_eq_true rfl) rfl (dkT_215 T23 e42) (fun p43 T44 => ?_)
      refine wq_istore_n rfl p43 (Nat.le_of_ble_eq_true rfl) (Or.inr ⟨_, rfl, (wq_notL (wm_zlt hv2))⟩) (L' := [36893488147419103232, v1, v2, y41.1, 73786976294838206464]) rfl ?_
      refine wq_aload_n rfl rfl rfl ?_
      obtain ⟨y45, e46, h⟩ := od_bindE h
      refine wd_virtZ (q := 0) (y := y45) (as := [36893488147419103232]) rfl rfl rfl (by decide) (Nat.le_of_ble_eq_true rfl) (Nat.le_of_ble_eq_true rfl) rfl (Nat.le_of_ble_eq_true rfl) rfl (dkT_212 T44 e46) (fun p47 T48 => ?_)
      refine wq_if_ne rfl rfl (wm_zlt p47) (fun h49 => ?_) (fun h49 => ?_)
      · replace h := od_neg h h49
        refine wq_aload_n rfl rfl rfl ?_
        obtain ⟨y50, e51, h⟩ := od_bindE h
        refine wd_virtZ (q := 0) (y := y50) (as := [36893488147419103232]) rfl rfl rfl (by decide) (Nat.le_of_ble_eq_true rfl) (Nat.le_of_ble_eq_true rfl) rfl (Nat.le_of_ble_eq_true rfl) rfl (dkT_217 T48 e51) (fun p52 T53 => ?_)
        refine wq_if_ne rfl rfl (wm_zlt p52) (fun h54 => ?_) (fun h54 => ?_)
        · replace h := od_neg h h54
          refine wq_aload_n rfl rfl rfl ?_
          refine wq_bipush rfl rfl ?_
          refine wq_iconst rfl rfl ?_
          refine wq_iconst rfl rfl ?_
          refine wq_iconst rfl rfl ?_
          obtain ⟨y55, e56, h⟩ := od_bindE h
          refine wd_virtI (q := 0) (y := y55) (as := [36893488147419103232, 14, 0, 0, 0]) rfl rfl rfl (by decide) (Nat.le_of_ble_eq_true rfl) (Nat.le_of_ble_eq_true rfl) rfl (Nat.le_of_ble_eq_true rfl) rfl (dkT_30 T53 (by decide) (wm_zlt (by decide)) (wm_zlt (by decide)) (wm_zlt (by decide)) e56) (fun p57 T58 => ?_)
          refine wq_istore rfl p57 (Nat.le_of_ble_eq_true rfl) (Or.inr ⟨_, rfl, (wq_notL p43)⟩) (L' := [36893488147419103232, v1, v2, y41.1, y55.1]) rfl ?_
          refine wq_aload_n rfl rfl rfl ?_
          refine wq_bipush rfl rfl ?_
          refine wq_iload_n rfl rfl hv1 ?_
          refine wq_iload_n rfl rfl p43 ?_
          refine wq_iconst rfl rfl ?_
          obtain ⟨y59, e60, h⟩ := od_bindE h
          refine wd_virtN (q := 0) (y := y59) (as := [36893488147419103232, 22, v1, y41.1, 0]) rfl rfl rfl (by decide) (Nat.le_of_ble_eq_true rfl) (Nat.le_of_ble_eq_true rfl) rfl (Nat.le_of_ble_eq_true rfl) rfl (dkT_31 T58 (by decide) hv1 p43 (wm_zlt (by decide)) e60) (fun T62 => ?_)
          refine wq_aload_n rfl rfl rfl ?_
          refine wq_bipush rfl rfl ?_
          refine wq_iconst rfl rfl ?_
          refine wq_iconst rfl rfl ?_
          refine wq_iconst rfl rfl ?_
          obtain ⟨y63, e64, h⟩ := od_bindE h
          refine wd_virtN (q := 0) (y := y63) (as := [36893488147419103232, 14, 0, 0, 0]) rfl rfl rfl (by decide) (Nat.le_of_ble_eq_true rfl) (Nat.le_of_ble_eq_true rfl) rfl (Nat.le_of_ble_eq_true rfl) rfl (dkT_31 T62 (by decide) (wm_zlt (by decide)) (wm_zlt (by decide)) (wm_zlt (by decide)) e64) (fun T66 => ?_)
          refine wq_aload_n rfl rfl rfl ?_
          refine wq_iconst rfl rfl ?_
          refine wq_iconst rfl rfl ?_
          refine wq_iconst rfl rfl ?_
          refine wq_iconst rfl rfl ?_
          obtain ⟨y67, e68, h⟩ := od_bindE h
          refine wd_virtN (q := 0) (y := y67) (as := [36893488147419103232, 3, 0, 0, 0]) rfl rfl rfl (by decide) (Nat.le_of_ble_eq_true rfl) (Nat.le_of_ble_eq_true rfl) rfl (Nat.le_of_ble_eq_true rfl) rfl (dkT_31 T66 (by decide) (wm_zlt (by decide)) (wm_zlt (by decide)) (wm_zlt (by decide)) e68) (fun T70 => ?_)
          refine wq_iconst rfl rfl ?_
          exact wq_iret rfl (wm_zlt (by decide)) (Nat.blt_eq.mpr (by decide)) (wkOZ h T70 (by decide))
        · replace h := od_pos h h54
          refine wq_aload_n rfl rfl rfl ?_
          obtain ⟨y71, e72, h⟩ := od_bindE h
          refine wd_virtZ (q := 0) (y := y71) (as := [36893488147419103232]) rfl rfl rfl (by decide) (Nat.le_of_ble_eq_true rfl) (Nat.le_of_ble_eq_true rfl) rfl (Nat.le_of_ble_eq_true rfl) rfl (dkT_211 T53 e72) (fun p73 T74 => ?_)
          exact wq_iret rfl (wm_zlt p73) (Nat.blt_eq.mpr p73) (wkOZ h T74 p73)
      · replace h := od_pos h h49
        refine wq_iconst rfl rfl ?_
        exact wq_iret rfl (wm_zlt (by decide)) (Nat.blt_eq.mpr (by decide)) (wkOZ h T48 (by decide))
  · replace h := od_pos h h1
    refine wq_aload_n rfl rfl rfl ?_
    obtain ⟨y75, e76, h⟩ := od_bindE h
    refine wd_virtZ (q := 0) (y := y75) (as := [36893488147419103232]) rfl rfl rfl (by decide) (Nat.le_of_ble_eq_true rfl) (Nat.le_of_ble_eq_true rfl) rfl (Nat.le_of_ble_eq_true rfl) rfl (dkT_211 hT e76) (fun p77 T78 => ?_)
    exact wq_iret rfl (wm_zlt p77) (Nat.blt_eq.mpr p77) (wkOZ h T78 p77)
def dk_256_13 (F : wq_F) (v1 : Nat) (s0 : Nat) : Option (Nat × wq_F) :=
  (dk_36 F 61).bind fun y1 =>
  if y1.1 = 0 then
    (dk_36 y1.2 44).bind fun y6 =>
    if y6.1 = 0 then
      if (y6.2 0 61) = 4 then
        if ev_s v1 < ev_s (y6.2 0 60) then
          (dk_211 y6.2).bind fun y25 =>
          some (y25.1, y25.2)
        else
          od_g (y6.2 0 62 < 14000) <|
          od_up y6.2 21 (y6.2 0 62) 0 fun F18 =>
          (dk_30 F18 47 0 0 0).bind fun y21 =>
          some (1, y21.2)
      else
        (dk_211 y6.2).bind fun y12 =>
        some (y12.1, y12.2)
    else
      dk_256_32 y6.2 v1 s0
  else
    dk_256_32 y1.2 v1 s0
theorem dk_256_13T {d : Nat} : ∀ ⦃F : wq_F⦄ (hT : wm_T F) ⦃v1 : Nat⦄ (hv1 : v1 < 4294967296) ⦃s0 : Nat⦄ (hs0 : s0 < 2) ⦃x : Nat × wq_F⦄ (h : dk_256_13 F v1 s0 = some x), wq (wq_cf (d + 2)) (ev_un al_mX12_afterChain.2.2.2.2) (some .boolean) 13 [36893488147419103232, v1, 73786976294838206464, 73786976294838206464, 73786976294838206464] [s0] wm_sh F 0 0 (wkZ wm_T wm_sh x) := by
  intro F hT v1 hv1 s0 hs0 x h
  unfold dk_256_13 at h
  refine wq_istore_n rfl (wm_zlt hs0) (Nat.le_of_ble_eq_true rfl) (Or.inr ⟨_, rfl, (wq_notL hv1)⟩) (L' := [36893488147419103232, v1, s0, 73786976294838206464, 73786976294838206464]) rfl ?_
  refine wq_aload_n rfl rfl rfl ?_
  refine wq_bipush rfl rfl ?_
  obtain ⟨y1, e2, h⟩ := od_bindE h
  refine wd_virtZ (q := 0) (y := y1) (as := [36893488147419103232, 61]) rfl rfl rfl (by decide) (Nat.le_of_ble_eq_true rfl) (Nat.le_of_ble_eq_true rfl) rfl (Nat.le_of_ble_eq_true rfl) rfl (dkT_36 hT (by decide) e2) (fun p3 T4 => ?_)
  refine wq_if_ne rfl rfl (wm_zlt p3) (fun h5 => ?_) (fun h5 => ?_)
  · replace h := od_neg h h5
    exact dk_256_32T T4 hv1 hs0 h
  · replace h := od_pos h h5
    refine wq_aload_n rfl rfl rfl ?_
    refine wq_bipush rfl rfl ?_
    obtain ⟨y6, e7, h⟩ := od_bindE h
    refine wd_virtZ (q := 0) (y := y6) (as := [36893488147419103232, 44]) rfl rfl rfl (by decide) (Nat.le_of_ble_eq_true rfl) (Nat.le_of_ble_eq_true rfl) rfl (Nat.le_of_ble_eq_true rfl) rfl (dkT_36 T4 (by decide) e7) (fun p8 T9 => ?_)
    refine wq_if_eq rfl rfl (wm_zlt p8) (fun h10 => ?_) (fun h10 => ?_)
    · replace h := od_pos h h10
      refine wq_aload_n rfl rfl rfl ?_
      refine wm_getI rfl (by decide) ?_
      refine wq_iconst rfl rfl ?_
      refine wq_ic_ne rfl rfl (T9.i 61 rfl) (by decide) (fun h11 => ?_) (fun h11 => ?_)
      · replace h := od_neg h h11
        refine wq_aload_n rfl rfl rfl ?_
        obtain ⟨y12, e13, h⟩ := od_bindE h
        refine wd_virtZ (q := 0) (y := y12) (as := [36893488147419103232]) rfl rfl rfl (by decide) (Nat.le_of_ble_eq_true rfl) (Nat.le_of_ble_eq_true rfl) rfl (Nat.le_of_ble_eq_true rfl) rfl (dkT_211 T9 e13) (fun p14 T15 => ?_)
        exact wq_iret rfl (wm_zlt p14) (Nat.blt_eq.mpr p14) (wkOZ h T15 p14)
      · replace h := od_pos h h11
        refine wq_aload_n rfl rfl rfl ?_
        refine wm_getI rfl (by decide) ?_
        refine wq_iload_n rfl rfl hv1 ?_
        refine wq_ic_le rfl rfl (T9.i 60 rfl) hv1 (fun h16 => ?_) (fun h16 => ?_)
        · replace h := od_neg h (Nat.not_lt.mpr h16)
          refine wq_aload_n rfl rfl rfl ?_
          refine wm_getR (v := 36893488147419103253) rfl (by decide) (T9.r 36 20 rfl) ?_
          refine wq_aload_n rfl rfl rfl ?_
          refine wm_getI rfl (by decide) ?_
          refine wq_iconst rfl rfl ?_
          obtain ⟨g17, h⟩ := od_gE h
          obtain ⟨F18, e19, h⟩ := od_upE h
          refine wd_iastore (q := 21) (n := 14000) rfl rfl (by decide) g17 (by decide) (wm_zlt (by decide)) e19 ?_
          have T20 : wm_T F18 := wd_T e19 (T9.ua (k := 21) (kd := 1000) (n := 14000) (i := y6.2 0 62) (v := 0) rfl (by decide) g17 (show 0 < 4294967296 from (wm_zlt (by decide))))
          refine wq_aload_n rfl rfl rfl ?_
          refine wq_bipush rfl rfl ?_
          refine wq_iconst rfl rfl ?_
          refine wq_iconst rfl rfl ?_
          refine wq_iconst rfl rfl ?_
          obtain ⟨y21, e22, h⟩ := od_bindE h
          refine wd_virtI (q := 0) (y := y21) (as := [36893488147419103232, 47, 0, 0, 0]) rfl rfl rfl (by decide) (Nat.le_of_ble_eq_true rfl) (Nat.le_of_ble_eq_true rfl) rfl (Nat.le_of_ble_eq_true rfl) rfl (dkT_30 T20 (by decide) (wm_zlt (by decide)) (wm_zlt (by decide)) (wm_zlt (by decide)) e22) (fun p23 T24 => ?_)
          refine wq_istore_n rfl p23 (Nat.le_of_ble_eq_true rfl) (Or.inr ⟨_, rfl, (wq_notL (wm_zlt hs0))⟩) (L' := [36893488147419103232, v1, s0, y21.1, 73786976294838206464]) rfl ?_
          refine wq_iconst rfl rfl ?_
          exact wq_iret rfl (wm_zlt (by decide)) (Nat.blt_eq.mpr (by decide)) (wkOZ h T24 (by decide))
        · replace h := od_pos h h16
          refine wq_aload_n rfl rfl rfl ?_
          obtain ⟨y25, e26, h⟩ := od_bindE h
          refine wd_virtZ (q := 0) (y := y25) (as := [36893488147419103232]) rfl rfl rfl (by decide) (Nat.le_of_ble_eq_true rfl) (Nat.le_of_ble_eq_true rfl) rfl (Nat.le_of_ble_eq_true rfl) rfl (dkT_211 T9 e26) (fun p27 T28 => ?_)
          exact wq_iret rfl (wm_zlt p27) (Nat.blt_eq.mpr p27) (wkOZ h T28 p27)
    · replace h := od_neg h h10
      exact dk_256_32T T9 hv1 hs0 h
/-- X12_afterChain -/
def dk_256 (F : wq_F) (a0 : Nat) : Option (Nat × wq_F) :=
  if ev_s 3 < ev_s (F 0 61) then
    dk_256_13 F a0 0
  else
    dk_256_13 F a0 1
theorem dkT_256 {d : Nat} {F : wq_F} (hT : wm_T F) {a0 : Nat} (ha0 : a0 < 4294967296) {x : Nat × wq_F} (h : dk_256 F a0 = some x) : mq (d + 2 + 1) 256 [36893488147419103232, a0] wm_sh F (wkZ wm_T wm_sh x) := by
  have e : ev_ent [36893488147419103232, a0] = [36893488147419103232, a0] := by
    show 36893488147419103232 :: ev_ent [a0] = _
    rw [wm_entI ha0]
    rfl
  refine mq_of (maxL := 5) (rt := (some .boolean)) (code := (ev_un al_mX12_afterChain.2.2.2.2)) (L := [36893488147419103232, a0, 73786976294838206464, 73786976294838206464, 73786976294838206464]) rfl (by rw [e]; exact Nat.le_of_ble_eq_true rfl) (by rw [e]; rfl) ?_
  unfold dk_256 at h
  refine wq_aload_n rfl rfl rfl ?_
  refine wm_getI rfl (by decide) ?_
  refine wq_iconst rfl rfl ?_
  refine wq_ic_gt rfl rfl (hT.i 61 rfl) (by decide) (fun h1 => ?_) (fun h1 => ?_)
  · replace h := od_pos h h1
    refine wq_iconst rfl rfl ?_
    exact dk_256_13T hT ha0 (by decide) h
  · replace h := od_neg h (Nat.not_lt.mpr h1)
    refine wq_iconst rfl rfl ?_
    refine wq_goto rfl rfl ?_
    exact dk_256_13T hT ha0 (by decide) h
def dk_257_80b (n : Nat) (r80 : wq_F → Nat → Nat → Nat → Option (Nat × wq_F)) (F : wq_F) (v1 : Nat) (v5 : Nat) (v6 : Nat) : Option (Nat × wq_F) :=
  if ev_s v6 < ev_s v1 then
    od_up F 0 60 v1 fun F2 =>
    (dk_30 F2 47 0 0 0).bind fun y5 =>
    some (1, y5.2)
  else
    od_g (v6 < 600) <|
    if (F 35 v6) = 3 then
      od_let ((v5 + (4294967296 - 2)) % 4294967296) fun y20 =>
      od_g (v6 < 600) <|
      (dk_30 F 13 y20 0 (F 37 v6)).bind fun y24 =>
      od_let ((v6 + 4294967295) % 4294967296) fun y28 =>
      r80 y24.2 v1 y20 y28
    else
      od_g (v6 < 600) <|
      od_g (v6 < 600) <|
      (dk_30 F ((9 + (F 35 v6)) % 4294967296) (F 36 v6) 0 0).bind fun y13 =>
      od_let ((v6 + 4294967295) % 4294967296) fun y17 =>
      r80 y13.2 v1 v5 y17
theorem dk_257_80bT {d n : Nat} {r80 : wq_F → Nat → Nat → Nat → Option (Nat × wq_F)} (hr80 : ∀ ⦃u2 : Nat⦄ ⦃u3 : Nat⦄ ⦃u4 : Nat⦄ ⦃F : wq_F⦄ (hT : wm_T F) ⦃v1 : Nat⦄ (hv1 : v1 < 4294967296) ⦃v5 : Nat⦄ (hv5 : v5 < 4294967296) ⦃v6 : Nat⦄ (hv6 : v6 < 4294967296) (hu2 : ev_isL u2 = false) (hu3 : ev_isL u3 = false) (hu4 : ev_isL u4 = false) ⦃x : Nat × wq_F⦄ (h : r80 F v1 v5 v6 = some x), wq (wq_cf (d + 1)) (ev_un al_mX12_assign.2.2.2.2) (some .boolean) 80 [36893488147419103232, v1, u2, u3, u4, v5, v6] [] wm_sh F 0 0 (wkZ wm_T wm_sh x)) : ∀ ⦃u2 : Nat⦄ ⦃u3 : Nat⦄ ⦃u4 : Nat⦄ ⦃F : wq_F⦄ (hT : wm_T F) ⦃v1 : Nat⦄ (hv1 : v1 < 4294967296) ⦃v5 : Nat⦄ (hv5 : v5 < 4294967296) ⦃v6 : Nat⦄ (hv6 : v6 < 4294967296) (hu2 : ev_isL u2 = false) (hu3 : ev_isL u3 = false) (hu4 : ev_isL u4 = false) ⦃x : Nat × wq_F⦄ (h : dk_257_80b n r80 F v1 v5 v6 = some x), wq (wq_cf (d + 1)) (ev_un al_mX12_assign.2.2.2.2) (some .boolean) 80 [36893488147419103232, v1, u2, u3, u4, v5, v6] [] wm_sh F 0 0 (wkZ wm_T wm_sh x) := by
  intro u2 u3 u4 F hT v1 hv1 v5 hv5 v6 hv6 hu2 hu3 hu4 x h
  unfold dk_257_80b at h
  refine wq_iload rfl rfl hv6 ?_
  refine wq_iload_n rfl rfl hv1 ?_
  refine wq_ic_lt rfl rfl hv6 hv1 (fun h1 => ?_) (fun h1 => ?_)
  · replace h := od_pos h h1
    refine wq_aload_n rfl rfl rfl ?_
    refine wq_iload_n rfl rfl hv1 ?_
    obtain ⟨F2, e3, h⟩ := od_upE h
    refine wmE_put rfl (by decide) (wq_I hv1) e3 ?_
    have T4 : wm_T F2 := wd_T e3 (hT.uf (f := 60) (c := 0) (v := v1) rfl (show v1 < 4294967296 from hv1))
    refine wq_aload_n rfl rfl rfl ?_
    refine wq_bipush rfl rfl ?_
    refine wq_iconst rfl rfl ?_
    refine wq_iconst rfl rfl ?_
    refine wq_iconst rfl rfl ?_
    obtain ⟨y5, e6, h⟩ := od_bindE h
    refine wd_virtI (q := 0) (y := y5) (as := [36893488147419103232, 47, 0, 0, 0]) rfl rfl rfl (by decide) (Nat.le_of_ble_eq_true rfl) (Nat.le_of_ble_eq_true rfl) rfl (Nat.le_of_ble_eq_true rfl) rfl (dkT_30 T4 (by decide) (wm_zlt (by decide)) (wm_zlt (by decide)) (wm_zlt (by decide)) e6) (fun p7 T8 => ?_)
    refine wq_istore rfl p7 (Nat.le_of_ble_eq_true rfl) (Or.inr ⟨_, rfl, hu3⟩) (L' := [36893488147419103232, v1, u2, u3, y5.1, v5, v6]) rfl ?_
    refine wq_iconst rfl rfl ?_
    exact wq_iret rfl (wm_zlt (by decide)) (Nat.blt_eq.mpr (by decide)) (wkOZ h T8 (by decide))
  · replace h := od_neg h (Nat.not_lt.mpr h1)
    refine wq_aload_n rfl rfl rfl ?_
    refine wm_getR (v := 36893488147419103267) rfl (by decide) (hT.r 57 34 rfl) ?_
    refine wq_iload rfl rfl hv6 ?_
    obtain ⟨g9, h⟩ := od_gE h
    refine wq_iaload (q := 35) (n := 600) rfl rfl (by decide) g9 (by decide) ?_
    refine wq_iconst rfl rfl ?_
    refine wq_ic_ne rfl rfl (hT.ai (k := 35) rfl g9) (by decide) (fun h10 => ?_) (fun h10 => ?_)
    · replace h := od_neg h h10
      refine wq_aload_n rfl rfl rfl ?_
      refine wq_bipush rfl rfl ?_
      refine wq_aload_n rfl rfl rfl ?_
      refine wm_getR (v := 36893488147419103267) rfl (by decide) (hT.r 57 34 rfl) ?_
      refine wq_iload rfl rfl hv6 ?_
      obtain ⟨g11, h⟩ := od_gE h
      refine wq_iaload (q := 35) (n := 600) rfl rfl (by decide) g11 (by decide) ?_
      refine wq_iaddZ rfl (by decide) (hT.ai (k := 35) rfl g11) (z := (9 + (F 35 v6)) % 4294967296) rfl ?_
      refine wq_aload_n rfl rfl rfl ?_
      refine wm_getR (v := 36893488147419103268) rfl (by decide) (hT.r 58 35 rfl) ?_
      refine wq_iload rfl rfl hv6 ?_
      obtain ⟨g12, h⟩ := od_gE h
      refine wq_iaload (q := 36) (n := 600) rfl rfl (by decide) g12 (by decide) ?_
      refine wq_iconst rfl rfl ?_
      refine wq_iconst rfl rfl ?_
      obtain ⟨y13, e14, h⟩ := od_bindE h
      refine wd_virtI (q := 0) (y := y13) (as := [36893488147419103232, (9 + (F 35 v6)) % 4294967296, F 36 v6, 0, 0]) rfl rfl rfl (by decide) (Nat.le_of_ble_eq_true rfl) (Nat.le_of_ble_eq_true rfl) rfl (Nat.le_of_ble_eq_true rfl) rfl (dkT_30 hT (Nat.mod_lt _ (by decide)) (hT.ai (k := 36) rfl g12) (wm_zlt (by decide)) (wm_zlt (by decide)) e14) (fun p15 T16 => ?_)
      refine wq_istore rfl p15 (Nat.le_of_ble_eq_true rfl) (Or.inr ⟨_, rfl, hu3⟩) (L' := [36893488147419103232, v1, u2, u3, y13.1, v5, v6]) rfl ?_
      obtain ⟨y17, e18, h⟩ := od_letE h
      have p19 : y17 < 4294967296 := wd_lt e18 (Nat.mod_lt _ (by decide))
      refine wq_iincZ rfl rfl hv6 (Or.inr ⟨_, rfl, (wq_notL hv5)⟩) rfl (z := y17) e18.symm (L' := [36893488147419103232, v1, u2, u3, y13.1, v5, y17]) rfl ?_
      refine wq_goto rfl rfl ?_
      exact hr80 T16 hv1 hv5 p19 hu2 hu3 (wq_notL p15) h
    · replace h := od_pos h h10
      refine wq_iload rfl rfl hv5 ?_
      refine wq_iconst rfl rfl ?_
      refine wq_isubZ rfl hv5 (by decide) (z := (v5 + (4294967296 - 2)) % 4294967296) rfl ?_
      obtain ⟨y20, e21, h⟩ := od_letE h
      refine wq_top e21.symm ?_
      have p22 : y20 < 4294967296 := wd_lt e21 (Nat.mod_lt _ (by decide))
      refine wq_istore rfl p22 (Nat.le_of_ble_eq_true rfl) (Or.inr ⟨_, rfl, hu4⟩) (L' := [36893488147419103232, v1, u2, u3, u4, y20, v6]) rfl ?_
      refine wq_aload_n rfl rfl rfl ?_
      refine wq_bipush rfl rfl ?_
      refine wq_iload rfl rfl p22 ?_
      refine wq_iconst rfl rfl ?_
      refine wq_aload_n rfl rfl rfl ?_
      refine wm_getR (v := 36893488147419103269) rfl (by decide) (hT.r 59 36 rfl) ?_
      refine wq_iload rfl rfl hv6 ?_
      obtain ⟨g23, h⟩ := od_gE h
      refine wq_iaload (q := 37) (n := 600) rfl rfl (by decide) g23 (by decide) ?_
      obtain ⟨y24, e25, h⟩ := od_bindE h
      refine wd_virtI (q := 0) (y := y24) (as := [36893488147419103232, 13, y20, 0, F 37 v6]) rfl rfl rfl (by decide) (Nat.le_of_ble_eq_true rfl) (Nat.le_of_ble_eq_true rfl) rfl (Nat.le_of_ble_eq_true rfl) rfl (dkT_30 hT (by decide) p22 (wm_zlt (by decide)) (hT.ai (k := 37) rfl g23) e25) (fun p26 T27 => ?_)
      refine wq_istore rfl p26 (Nat.le_of_ble_eq_true rfl) (Or.inr ⟨_, rfl, hu3⟩) (L' := [36893488147419103232, v1, u2, u3, y24.1, y20, v6]) rfl ?_
      refine wq_goto rfl rfl ?_
      obtain ⟨y28, e29, h⟩ := od_letE h
      have p30 : y28 < 4294967296 := wd_lt e29 (Nat.mod_lt _ (by decide))
      refine wq_iincZ rfl rfl hv6 (Or.inr ⟨_, rfl, (wq_notL p22)⟩) rfl (z := y28) e29.symm (L' := [36893488147419103232, v1, u2, u3, y24.1, y20, y28]) rfl ?_
      refine wq_goto rfl rfl ?_
      exact hr80 T27 hv1 p22 p30 hu2 hu3 (wq_notL p26) h
def dk_257_80 (n : Nat) : Nat → wq_F → Nat → Nat → Nat → Option (Nat × wq_F)
  | 0 => fun _ _ _ _ => none
  | g + 1 => dk_257_80b n (dk_257_80 n g)
theorem dk_257_80T {d n : Nat} : ∀ g : Nat, ∀ ⦃u2 : Nat⦄ ⦃u3 : Nat⦄ ⦃u4 : Nat⦄ ⦃F : wq_F⦄ (hT : wm_T F) ⦃v1 : Nat⦄ (hv1 : v1 < 4294967296) ⦃v5 : Nat⦄ (hv5 : v5 < 4294967296) ⦃v6 : Nat⦄ (hv6 : v6 < 4294967296) (hu2 : ev_isL u2 = false) (hu3 : ev_isL u3 = false) (hu4 : ev_isL u4 = false) ⦃x : Nat × wq_F⦄ (h : dk_257_80 n g F v1 v5 v6 = some x), wq (wq_cf (d + 1)) (ev_un al_mX12_assign.2.2.2.2) (some .boolean) 80 [36893488147419103232, v1, u2, u3, u4, v5, v6] [] wm_sh F 0 0 (wkZ wm_T wm_sh x)
  | 0 => by
    intro u2 u3 u4 F hT v1 hv1 v5 hv5 v6 hv6 hu2 hu3 hu4 x h
    cases h
  | g + 1 => dk_257_80bT (dk_257_80T g)
def dk_257_35b (n : Nat) (r35 : wq_F → Nat → Nat → Nat → Option (Nat × wq_F)) (F : wq_F) (v1 : Nat) (v5 : Nat) (v6 : Nat) : Option (Nat × wq_F) :=
  if ev_s v6 < ev_s (F 0 60) then
    od_g (v6 < 600) <|
    if (F 35 v6) = 3 then
      od_let ((v6 + 1) % 4294967296) fun y10 =>
      r35 F v1 ((v5 + 2) % 4294967296) y10
    else
      od_let ((v6 + 1) % 4294967296) fun y7 =>
      r35 F v1 v5 y7
  else
    od_let (((F 0 60) + (4294967296 - 1)) % 4294967296) fun y2 =>
    dk_257_80 n n F v1 v5 y2
theorem dk_257_35bT {d n : Nat} {r35 : wq_F → Nat → Nat → Nat → Option (Nat × wq_F)} (hr35 : ∀ ⦃u2 : Nat⦄ ⦃u3 : Nat⦄ ⦃u4 : Nat⦄ ⦃F : wq_F⦄ (hT : wm_T F) ⦃v1 : Nat⦄ (hv1 : v1 < 4294967296) ⦃v5 : Nat⦄ (hv5 : v5 < 4294967296) ⦃v6 : Nat⦄ (hv6 : v6 < 4294967296) (hu2 : ev_isL u2 = false) (hu3 : ev_isL u3 = false) (hu4 : ev_isL u4 = false) ⦃x : Nat × wq_F⦄ (h : r35 F v1 v5 v6 = some x), wq (wq_cf (d + 1)) (ev_un al_mX12_assign.2.2.2.2) (some .boolean) 35 [36893488147419103232, v1, u2, u3, u4, v5, v6] [] wm_sh F 0 0 (wkZ wm_T wm_sh x)) : ∀ ⦃u2 : Nat⦄ ⦃u3 : Nat⦄ ⦃u4 : Nat⦄ ⦃F : wq_F⦄ (hT : wm_T F) ⦃v1 : Nat⦄ (hv1 : v1 < 4294967296) ⦃v5 : Nat⦄ (hv5 : v5 < 4294967296) ⦃v6 : Nat⦄ (hv6 : v6 < 4294967296) (hu2 : ev_isL u2 = false) (hu3 : ev_isL u3 = false) (hu4 : ev_isL u4 = false) ⦃x : Nat × wq_F⦄ (h : dk_257_35b n r35 F v1 v5 v6 = some x), wq (wq_cf (d + 1)) (ev_un al_mX12_assign.2.2.2.2) (some .boolean) 35 [36893488147419103232, v1, u2, u3, u4, v5, v6] [] wm_sh F 0 0 (wkZ wm_T wm_sh x) := by
  intro u2 u3 u4 F hT v1 hv1 v5 hv5 v6 hv6 hu2 hu3 hu4 x h
  unfold dk_257_35b at h
  refine wq_iload rfl rfl hv6 ?_
  refine wq_aload_n rfl rfl rfl ?_
  refine wm_getI rfl (by decide) ?_
  refine wq_ic_ge rfl rfl hv6 (hT.i 60 rfl) (fun h1 => ?_) (fun h1 => ?_)
  · replace h := od_neg h (Nat.not_lt.mpr h1)
    refine wq_aload_n rfl rfl rfl ?_
    refine wm_getI rfl (by decide) ?_
    refine wq_iconst rfl rfl ?_
    refine wq_isubZ rfl (hT.i 60 rfl) (wm_zlt (by decide)) (z := ((F 0 60) + (4294967296 - 1)) % 4294967296) rfl ?_
    obtain ⟨y2, e3, h⟩ := od_letE h
    refine wq_top e3.symm ?_
    have p4 : y2 < 4294967296 := wd_lt e3 (Nat.mod_lt _ (by decide))
    refine wq_istore rfl p4 (Nat.le_of_ble_eq_true rfl) (Or.inr ⟨_, rfl, (wq_notL hv5)⟩) (L' := [36893488147419103232, v1, u2, u3, u4, v5, y2]) rfl ?_
    exact dk_257_80T n hT hv1 hv5 p4 hu2 hu3 hu4 h
  · replace h := od_pos h h1
    refine wq_aload_n rfl rfl rfl ?_
    refine wm_getR (v := 36893488147419103267) rfl (by decide) (hT.r 57 34 rfl) ?_
    refine wq_iload rfl rfl hv6 ?_
    obtain ⟨g5, h⟩ := od_gE h
    refine wq_iaload (q := 35) (n := 600) rfl rfl (by decide) g5 (by decide) ?_
    refine wq_iconst rfl rfl ?_
    refine wq_ic_ne rfl rfl (hT.ai (k := 35) rfl g5) (by decide) (fun h6 => ?_) (fun h6 => ?_)
    · replace h := od_neg h h6
      refine wq_iload rfl rfl hv5 ?_
      refine wq_istore rfl hv5 (Nat.le_of_ble_eq_true rfl) (Or.inr ⟨_, rfl, hu4⟩) (L' := [36893488147419103232, v1, u2, u3, u4, v5, v6]) rfl ?_
      obtain ⟨y7, e8, h⟩ := od_letE h
      have p9 : y7 < 4294967296 := wd_lt e8 (Nat.mod_lt _ (by decide))
      refine wq_iincZ rfl rfl hv6 (Or.inr ⟨_, rfl, (wq_notL hv5)⟩) rfl (z := y7) e8.symm (L' := [36893488147419103232, v1, u2, u3, u4, v5, y7]) rfl ?_
      refine wq_goto rfl rfl ?_
      exact hr35 hT hv1 hv5 p9 hu2 hu3 hu4 h
    · replace h := od_pos h h6
      refine wq_iload rfl rfl hv5 ?_
      refine wq_iconst rfl rfl ?_
      refine wq_iaddZ rfl hv5 (by decide) (z := (v5 + 2) % 4294967296) rfl ?_
      refine wq_goto rfl rfl ?_
      refine wq_istore rfl (Nat.mod_lt _ (by decide)) (Nat.le_of_ble_eq_true rfl) (Or.inr ⟨_, rfl, hu4⟩) (L' := [36893488147419103232, v1, u2, u3, u4, (v5 + 2) % 4294967296, v6]) rfl ?_
      obtain ⟨y10, e11, h⟩ := od_letE h
      have p12 : y10 < 4294967296 := wd_lt e11 (Nat.mod_lt _ (by decide))
      refine wq_iincZ rfl rfl hv6 (Or.inr ⟨_, rfl, (wq_notL (Nat.mod_lt _ (by decide)))⟩) rfl (z := y10) e11.symm (L' := [36893488147419103232, v1, u2, u3, u4, (v5 + 2) % 4294967296, y10]) rfl ?_
      refine wq_goto rfl rfl ?_
      exact hr35 hT hv1 (Nat.mod_lt _ (by decide)) p12 hu2 hu3 hu4 h
def dk_257_35 (n : Nat) : Nat → wq_F → Nat → Nat → Nat → Option (Nat × wq_F)
  | 0 => fun _ _ _ _ => none
  | g + 1 => dk_257_35b n (dk_257_35 n g)
theorem dk_257_35T {d n : Nat} : ∀ g : Nat, ∀ ⦃u2 : Nat⦄ ⦃u3 : Nat⦄ ⦃u4 : Nat⦄ ⦃F : wq_F⦄ (hT : wm_T F) ⦃v1 : Nat⦄ (hv1 : v1 < 4294967296) ⦃v5 : Nat⦄ (hv5 : v5 < 4294967296) ⦃v6 : Nat⦄ (hv6 : v6 < 4294967296) (hu2 : ev_isL u2 = false) (hu3 : ev_isL u3 = false) (hu4 : ev_isL u4 = false) ⦃x : Nat × wq_F⦄ (h : dk_257_35 n g F v1 v5 v6 = some x), wq (wq_cf (d + 1)) (ev_un al_mX12_assign.2.2.2.2) (some .boolean) 35 [36893488147419103232, v1, u2, u3, u4, v5, v6] [] wm_sh F 0 0 (wkZ wm_T wm_sh x)
  | 0 => by
    intro u2 u3 u4 F hT v1 hv1 v5 hv5 v6 hv6 hu2 hu3 hu4 x h
    cases h
  | g + 1 => dk_257_35bT (dk_257_35T g)
/-- X12_assign -/
def dk_257 (n : Nat) (F : wq_F) (a0 : Nat) (a1 : Nat) : Option (Nat × wq_F) :=
  od_let (((F 0 60) + (4294967296 - a0)) % 4294967296) fun y1 =>
  (dk_30 F 17 0 0 a1).bind fun y4 =>
  (dk_30 y4.2 18 y1 0 0).bind fun y8 =>
  dk_257_35 n n y8.2 a0 0 a0
theorem dkT_257 {d n : Nat} {F : wq_F} (hT : wm_T F) {a0 : Nat} (ha0 : a0 < 4294967296) {a1 : Nat} (ha1 : a1 < 4294967296) {x : Nat × wq_F} (h : dk_257 n F a0 a1 = some x) : mq (d + 1 + 1) 257 [36893488147419103232, a0, a1] wm_sh F (wkZ wm_T wm_sh x) := by
  have e : ev_ent [36893488147419103232, a0, a1] = [36893488147419103232, a0, a1] := by
    show 36893488147419103232 :: ev_ent [a0, a1] = _
    rw [wm_entI ha0, wm_entI ha1]
    rfl
  refine mq_of (maxL := 7) (rt := (some .boolean)) (code := (ev_un al_mX12_assign.2.2.2.2)) (L := [36893488147419103232, a0, a1, 73786976294838206464, 73786976294838206464, 73786976294838206464, 73786976294838206464]) rfl (by rw [e]; exact Nat.le_of_ble_eq_true rfl) (by rw [e]; rfl) ?_
  unfold dk_257 at h
  refine wq_aload_n rfl rfl rfl ?_
  refine wm_getI rfl (by decide) ?_
  refine wq_iload_n rfl rfl ha0 ?_
  refine wq_isubZ rfl (hT.i 60 rfl) ha0 (z := ((F 0 60) + (4294967296 - a0)) % 4294967296) rfl ?_
  obtain ⟨y1, e2, h⟩ := od_letE h
  refine wq_top e2.symm ?_
  have p3 : y1 < 4294967296 := wd_lt e2 (Nat.mod_lt _ (by decide))
  refine wq_istore_n rfl p3 (Nat.le_of_ble_eq_true rfl) (Or.inr ⟨_, rfl, (wq_notL ha1)⟩) (L' := [36893488147419103232, a0, a1, y1, 73786976294838206464, 73786976294838206464, 73786976294838206464]) rfl ?_
  refine wq_aload_n rfl rfl rfl ?_
  refine wq_bipush rfl rfl ?_
  refine wq_iconst rfl rfl ?_
  refine wq_iconst rfl rfl ?_
  refine wq_iload_n rfl rfl ha1 ?_
  obtain ⟨y4, e5, h⟩ := od_bindE h
  refine wd_virtI (q := 0) (y := y4) (as := [36893488147419103232, 17, 0, 0, a1]) rfl rfl rfl (by decide) (Nat.le_of_ble_eq_true rfl) (Nat.le_of_ble_eq_true rfl) rfl (Nat.le_of_ble_eq_true rfl) rfl (dkT_30 hT (by decide) (wm_zlt (by decide)) (wm_zlt (by decide)) ha1 e5) (fun p6 T7 => ?_)
  refine wq_istore rfl p6 (Nat.le_of_ble_eq_true rfl) (Or.inr ⟨_, rfl, (wq_notL p3)⟩) (L' := [36893488147419103232, a0, a1, y1, y4.1, 73786976294838206464, 73786976294838206464]) rfl ?_
  refine wq_aload_n rfl rfl rfl ?_
  refine wq_bipush rfl rfl ?_
  refine wq_iload_n rfl rfl p3 ?_
  refine wq_iconst rfl rfl ?_
  refine wq_iconst rfl rfl ?_
  obtain ⟨y8, e9, h⟩ := od_bindE h
  refine wd_virtI (q := 0) (y := y8) (as := [36893488147419103232, 18, y1, 0, 0]) rfl rfl rfl (by decide) (Nat.le_of_ble_eq_true rfl) (Nat.le_of_ble_eq_true rfl) rfl (Nat.le_of_ble_eq_true rfl) rfl (dkT_30 T7 (by decide) p3 (wm_zlt (by decide)) (wm_zlt (by decide)) e9) (fun p10 T11 => ?_)
  refine wq_istore rfl p10 (Nat.le_of_ble_eq_true rfl) (Or.inr ⟨_, rfl, (wq_notL p3)⟩) (L' := [36893488147419103232, a0, a1, y1, y8.1, 73786976294838206464, 73786976294838206464]) rfl ?_
  refine wq_iconst rfl rfl ?_
  refine wq_istore rfl (wm_zlt (by decide)) (Nat.le_of_ble_eq_true rfl) (Or.inr ⟨_, rfl, (wq_notL p10)⟩) (L' := [36893488147419103232, a0, a1, y1, y8.1, 0, 73786976294838206464]) rfl ?_
  refine wq_iload_n rfl rfl ha0 ?_
  refine wq_istore rfl ha0 (Nat.le_of_ble_eq_true rfl) (Or.inr ⟨_, rfl, (wq_notL (wm_zlt (by decide)))⟩) (L' := [36893488147419103232, a0, a1, y1, y8.1, 0, a0]) rfl ?_
  exact dk_257_35T n T11 ha0 (wm_zlt (by decide)) ha0 (wq_notL ha1) (wq_notL p3) (wq_notL p10) h
/-- X12_then -/
def dk_258 (F : wq_F) (a0 : Nat) : Option (Nat × wq_F) :=
  (dk_214 F 18).bind fun y1 =>
  if y1.1 = 0 then
    some (0, y1.2)
  else
    (dk_30 y1.2 22 0 0 0).bind fun y6 =>
    (dk_31 y6.2 24 y6.1 a0 0).bind fun y10 =>
    (dk_224 y10.2).bind fun y14 =>
    some (1, y14.2)
theorem dkT_258 {d : Nat} {F : wq_F} (hT : wm_T F) {a0 : Nat} (ha0 : a0 < 4294967296) {x : Nat × wq_F} (h : dk_258 F a0 = some x) : mq (d + 3 + 1) 258 [36893488147419103232, a0] wm_sh F (wkZ wm_T wm_sh x) := by
  have e : ev_ent [36893488147419103232, a0] = [36893488147419103232, a0] := by
    show 36893488147419103232 :: ev_ent [a0] = _
    rw [wm_entI ha0]
    rfl
  refine mq_of (maxL := 3) (rt := (some .boolean)) (code := (ev_un al_mX12_then.2.2.2.2)) (L := [36893488147419103232, a0, 73786976294838206464]) rfl (by rw [e]; exact Nat.le_of_ble_eq_true rfl) (by rw [e]; rfl) ?_
  unfold dk_258 at h
  refine wq_aload_n rfl rfl rfl ?_
  refine wq_bipush rfl rfl ?_
  obtain ⟨y1, e2, h⟩ := od_bindE h
  refine wd_virtZ (q := 0) (y := y1) (as := [36893488147419103232, 18]) rfl rfl rfl (by decide) (Nat.le_of_ble_eq_true rfl) (Nat.le_of_ble_eq_true rfl) rfl (Nat.le_of_ble_eq_true rfl) rfl (dkT_214 hT (by decide) e2) (fun p3 T4 => ?_)
  refine wq_if_ne rfl rfl (wm_zlt p3) (fun h5 => ?_) (fun h5 => ?_)
  · replace h := od_neg h h5
    refine wq_aload_n rfl rfl rfl ?_
    refine wq_bipush rfl rfl ?_
    refine wq_iconst rfl rfl ?_
    refine wq_iconst rfl rfl ?_
    refine wq_iconst rfl rfl ?_
    obtain ⟨y6, e7, h⟩ := od_bindE h
    refine wd_virtI (q := 0) (y := y6) (as := [36893488147419103232, 22, 0, 0, 0]) rfl rfl rfl (by decide) (Nat.le_of_ble_eq_true rfl) (Nat.le_of_ble_eq_true rfl) rfl (Nat.le_of_ble_eq_true rfl) rfl (dkT_30 T4 (by decide) (wm_zlt (by decide)) (wm_zlt (by decide)) (wm_zlt (by decide)) e7) (fun p8 T9 => ?_)
    refine wq_istore_n rfl p8 (Nat.le_of_ble_eq_true rfl) (Or.inr ⟨_, rfl, (wq_notL ha0)⟩) (L' := [36893488147419103232, a0, y6.1]) rfl ?_
    refine wq_aload_n rfl rfl rfl ?_
    refine wq_bipush rfl rfl ?_
    refine wq_iload_n rfl rfl p8 ?_
    refine wq_iload_n rfl rfl ha0 ?_
    refine wq_iconst rfl rfl ?_
    obtain ⟨y10, e11, h⟩ := od_bindE h
    refine wd_virtN (q := 0) (y := y10) (as := [36893488147419103232, 24, y6.1, a0, 0]) rfl rfl rfl (by decide) (Nat.le_of_ble_eq_true rfl) (Nat.le_of_ble_eq_true rfl) rfl (Nat.le_of_ble_eq_true rfl) rfl (dkT_31 T9 (by decide) p8 ha0 (wm_zlt (by decide)) e11) (fun T13 => ?_)
    refine wq_aload_n rfl rfl rfl ?_
    obtain ⟨y14, e15, h⟩ := od_bindE h
    refine wd_virtN (q := 0) (y := y14) (as := [36893488147419103232]) rfl rfl rfl (by decide) (Nat.le_of_ble_eq_true rfl) (Nat.le_of_ble_eq_true rfl) rfl (Nat.le_of_ble_eq_true rfl) rfl (dkT_224 T13 e15) (fun T17 => ?_)
    refine wq_iconst rfl rfl ?_
    exact wq_iret rfl (wm_zlt (by decide)) (Nat.blt_eq.mpr (by decide)) (wkOZ h T17 (by decide))
  · replace h := od_pos h h5
    refine wq_iconst rfl rfl ?_
    exact wq_iret rfl (wm_zlt (by decide)) (Nat.blt_eq.mpr (by decide)) (wkOZ h T4 (by decide))
def dk_260_2b (n : Nat) (r2 : wq_F → Nat → Option (Nat × wq_F)) (F : wq_F) (v2 : Nat) : Option (Nat × wq_F) :=
  if 2147483648 ≤ v2 then
    (dk_214 F 6).bind fun y2 =>
    some (y2.1, y2.2)
  else
    od_g (v2 < 14000) <|
    od_g (v2 < 14000) <|
    od_up F 21 v2 (F 0 41) fun F8 =>
    r2 F8 (F 21 v2)
theorem dk_260_2bT {d n : Nat} {r2 : wq_F → Nat → Option (Nat × wq_F)} (hr2 : ∀ ⦃u1 : Nat⦄ ⦃u3 : Nat⦄ ⦃F : wq_F⦄ (hT : wm_T F) ⦃v2 : Nat⦄ (hv2 : v2 < 4294967296) (hu1 : ev_isL u1 = false) (hu3 : ev_isL u3 = false) ⦃x : Nat × wq_F⦄ (h : r2 F v2 = some x), wq (wq_cf (d + 3)) (ev_un al_mX12_endIf.2.2.2.2) (some .boolean) 2 [36893488147419103232, u1, v2, u3] [] wm_sh F 0 0 (wkZ wm_T wm_sh x)) : ∀ ⦃u1 : Nat⦄ ⦃u3 : Nat⦄ ⦃F : wq_F⦄ (hT : wm_T F) ⦃v2 : Nat⦄ (hv2 : v2 < 4294967296) (hu1 : ev_isL u1 = false) (hu3 : ev_isL u3 = false) ⦃x : Nat × wq_F⦄ (h : dk_260_2b n r2 F v2 = some x), wq (wq_cf (d + 3)) (ev_un al_mX12_endIf.2.2.2.2) (some .boolean) 2 [36893488147419103232, u1, v2, u3] [] wm_sh F 0 0 (wkZ wm_T wm_sh x) := by
  intro u1 u3 F hT v2 hv2 hu1 hu3 x h
  unfold dk_260_2b at h
  refine wq_iload_n rfl rfl hv2 ?_
  refine wq_if_lt rfl rfl hv2 (fun h1 => ?_) (fun h1 => ?_)
  · replace h := od_pos h h1
    refine wq_aload_n rfl rfl rfl ?_
    refine wq_bipush rfl rfl ?_
    obtain ⟨y2, e3, h⟩ := od_bindE h
    refine wd_virtZ (q := 0) (y := y2) (as := [36893488147419103232, 6]) rfl rfl rfl (by decide) (Nat.le_of_ble_eq_true rfl) (Nat.le_of_ble_eq_true rfl) rfl (Nat.le_of_ble_eq_true rfl) rfl (dkT_214 hT (by decide) e3) (fun p4 T5 => ?_)
    exact wq_iret rfl (wm_zlt p4) (Nat.blt_eq.mpr p4) (wkOZ h T5 p4)
  · replace h := od_neg h (Nat.not_le.mpr h1)
    refine wq_aload_n rfl rfl rfl ?_
    refine wm_getR (v := 36893488147419103253) rfl (by decide) (hT.r 36 20 rfl) ?_
    refine wq_iload_n rfl rfl hv2 ?_
    obtain ⟨g6, h⟩ := od_gE h
    refine wq_iaload (q := 21) (n := 14000) rfl rfl (by decide) g6 (by decide) ?_
    refine wq_istore_n rfl (hT.ai (k := 21) rfl g6) (Nat.le_of_ble_eq_true rfl) (Or.inr ⟨_, rfl, (wq_notL hv2)⟩) (L' := [36893488147419103232, u1, v2, F 21 v2]) rfl ?_
    refine wq_aload_n rfl rfl rfl ?_
    refine wm_getR (v := 36893488147419103253) rfl (by decide) (hT.r 36 20 rfl) ?_
    refine wq_iload_n rfl rfl hv2 ?_
    refine wq_aload_n rfl rfl rfl ?_
    refine wm_getI rfl (by decide) ?_
    obtain ⟨g7, h⟩ := od_gE h
    obtain ⟨F8, e9, h⟩ := od_upE h
    refine wd_iastore (q := 21) (n := 14000) rfl rfl (by decide) g7 (by decide) (hT.i 41 rfl) e9 ?_
    have T10 : wm_T F8 := wd_T e9 (hT.ua (k := 21) (kd := 1000) (n := 14000) (i := v2) (v := F 0 41) rfl (by decide) g7 (show F 0 41 < 4294967296 from (hT.i 41 rfl)))
    refine wq_iload_n rfl rfl (hT.ai (k := 21) rfl g6) ?_
    refine wq_istore_n rfl (hT.ai (k := 21) rfl g6) (Nat.le_of_ble_eq_true rfl) (Or.inr ⟨_, rfl, hu1⟩) (L' := [36893488147419103232, u1, F 21 v2, F 21 v2]) rfl ?_
    refine wq_goto rfl rfl ?_
    exact hr2 T10 (hT.ai (k := 21) rfl g6) hu1 (wq_notL (hT.ai (k := 21) rfl g6)) h
def dk_260_2 (n : Nat) : Nat → wq_F → Nat → Option (Nat × wq_F)
  | 0 => fun _ _ => none
  | g + 1 => dk_260_2b n (dk_260_2 n g)
theorem dk_260_2T {d n : Nat} : ∀ g : Nat, ∀ ⦃u1 : Nat⦄ ⦃u3 : Nat⦄ ⦃F : wq_F⦄ (hT : wm_T F) ⦃v2 : Nat⦄ (hv2 : v2 < 4294967296) (hu1 : ev_isL u1 = false) (hu3 : ev_isL u3 = false) ⦃x : Nat × wq_F⦄ (h : dk_260_2 n g F v2 = some x), wq (wq_cf (d + 3)) (ev_un al_mX12_endIf.2.2.2.2) (some .boolean) 2 [36893488147419103232, u1, v2, u3] [] wm_sh F 0 0 (wkZ wm_T wm_sh x)
  | 0 => by
    intro u1 u3 F hT v2 hv2 hu1 hu3 x h
    cases h
  | g + 1 => dk_260_2bT (dk_260_2T g)
/-- X12_endIf -/
def dk_260 (n : Nat) (F : wq_F) (a0 : Nat) : Option (Nat × wq_F) :=
  dk_260_2 n n F a0
theorem dkT_260 {d n : Nat} {F : wq_F} (hT : wm_T F) {a0 : Nat} (ha0 : a0 < 4294967296) {x : Nat × wq_F} (h : dk_260 n F a0 = some x) : mq (d + 3 + 1) 260 [36893488147419103232, a0] wm_sh F (wkZ wm_T wm_sh x) := by
  have e : ev_ent [36893488147419103232, a0] = [36893488147419103232, a0] := by
    show 36893488147419103232 :: ev_ent [a0] = _
    rw [wm_entI ha0]
    rfl
  refine mq_of (maxL := 4) (rt := (some .boolean)) (code := (ev_un al_mX12_endIf.2.2.2.2)) (L := [36893488147419103232, a0, 73786976294838206464, 73786976294838206464]) rfl (by rw [e]; exact Nat.le_of_ble_eq_true rfl) (by rw [e]; rfl) ?_
  unfold dk_260 at h
  refine wq_iload_n rfl rfl ha0 ?_
  refine wq_istore_n rfl ha0 (Nat.le_of_ble_eq_true rfl) (Or.inr ⟨_, rfl, (wq_notL ha0)⟩) (L' := [36893488147419103232, a0, a0, 73786976294838206464]) rfl ?_
  exact dk_260_2T n hT ha0 (wq_notL ha0) rfl h
def dk_259_18 (n : Nat) (F : wq_F) (v1 : Nat) (v2 : Nat) : Option (Nat × wq_F) :=
  (dk_34 F 5).bind fun y1 =>
  (dk_30 y1.2 21 v2 0 0).bind fun y5 =>
  od_g (v1 < 14000) <|
  od_up y5.2 21 v1 (y5.2 0 41) fun F10 =>
  (dk_212 F10).bind fun y13 =>
  if y13.1 = 0 then
    some (0, y13.2)
  else
    if y1.1 = 0 then
      (dk_31 y13.2 25 y5.1 0 0).bind fun y19 =>
      (dk_224 y19.2).bind fun y23 =>
      some (1, y23.2)
    else
      (dk_31 y13.2 23 y5.1 0 0).bind fun y27 =>
      (dk_31 y27.2 3 0 0 0).bind fun y31 =>
      some (1, y31.2)
theorem dk_259_18T {d n : Nat} : ∀ ⦃u3 : Nat⦄ ⦃F : wq_F⦄ (hT : wm_T F) ⦃v1 : Nat⦄ (hv1 : v1 < 4294967296) ⦃v2 : Nat⦄ (hv2 : v2 < 4294967296) (hu3 : ev_isL u3 = false) ⦃x : Nat × wq_F⦄ (h : dk_259_18 n F v1 v2 = some x), wq (wq_cf (d + 4)) (ev_un al_mX12_afterIf.2.2.2.2) (some .boolean) 18 [36893488147419103232, v1, v2, u3, 73786976294838206464] [] wm_sh F 0 0 (wkZ wm_T wm_sh x) := by
  intro u3 F hT v1 hv1 v2 hv2 hu3 x h
  unfold dk_259_18 at h
  refine wq_aload_n rfl rfl rfl ?_
  refine wq_iconst rfl rfl ?_
  obtain ⟨y1, e2, h⟩ := od_bindE h
  refine wd_virtZ (q := 0) (y := y1) (as := [36893488147419103232, 5]) rfl rfl rfl (by decide) (Nat.le_of_ble_eq_true rfl) (Nat.le_of_ble_eq_true rfl) rfl (Nat.le_of_ble_eq_true rfl) rfl (dkT_34 hT (by decide) e2) (fun p3 T4 => ?_)
  refine wq_istore rfl (wm_zlt p3) (Nat.le_of_ble_eq_true rfl) (Or.inr ⟨_, rfl, hu3⟩) (L' := [36893488147419103232, v1, v2, u3, y1.1]) rfl ?_
  refine wq_aload_n rfl rfl rfl ?_
  refine wq_bipush rfl rfl ?_
  refine wq_iload_n rfl rfl hv2 ?_
  refine wq_iconst rfl rfl ?_
  refine wq_iconst rfl rfl ?_
  obtain ⟨y5, e6, h⟩ := od_bindE h
  refine wd_virtI (q := 0) (y := y5) (as := [36893488147419103232, 21, v2, 0, 0]) rfl rfl rfl (by decide) (Nat.le_of_ble_eq_true rfl) (Nat.le_of_ble_eq_true rfl) rfl (Nat.le_of_ble_eq_true rfl) rfl (dkT_30 T4 (by decide) hv2 (wm_zlt (by decide)) (wm_zlt (by decide)) e6) (fun p7 T8 => ?_)
  refine wq_istore_n rfl p7 (Nat.le_of_ble_eq_true rfl) (Or.inr ⟨_, rfl, (wq_notL hv2)⟩) (L' := [36893488147419103232, v1, v2, y5.1, y1.1]) rfl ?_
  refine wq_aload_n rfl rfl rfl ?_
  refine wm_getR (v := 36893488147419103253) rfl (by decide) (T8.r 36 20 rfl) ?_
  refine wq_iload_n rfl rfl hv1 ?_
  refine wq_aload_n rfl rfl rfl ?_
  refine wm_getI rfl (by decide) ?_
  obtain ⟨g9, h⟩ := od_gE h
  obtain ⟨F10, e11, h⟩ := od_upE h
  refine wd_iastore (q := 21) (n := 14000) rfl rfl (by decide) g9 (by decide) (T8.i 41 rfl) e11 ?_
  have T12 : wm_T F10 := wd_T e11 (T8.ua (k := 21) (kd := 1000) (n := 14000) (i := v1) (v := y5.2 0 41) rfl (by decide) g9 (show y5.2 0 41 < 4294967296 from (T8.i 41 rfl)))
  refine wq_aload_n rfl rfl rfl ?_
  obtain ⟨y13, e14, h⟩ := od_bindE h
  refine wd_virtZ (q := 0) (y := y13) (as := [36893488147419103232]) rfl rfl rfl (by decide) (Nat.le_of_ble_eq_true rfl) (Nat.le_of_ble_eq_true rfl) rfl (Nat.le_of_ble_eq_true rfl) rfl (dkT_212 T12 e14) (fun p15 T16 => ?_)
  refine wq_if_ne rfl rfl (wm_zlt p15) (fun h17 => ?_) (fun h17 => ?_)
  · replace h := od_neg h h17
    refine wq_iload rfl rfl (wm_zlt p3) ?_
    refine wq_if_eq rfl rfl (wm_zlt p3) (fun h18 => ?_) (fun h18 => ?_)
    · replace h := od_pos h h18
      refine wq_aload_n rfl rfl rfl ?_
      refine wq_bipush rfl rfl ?_
      refine wq_iload_n rfl rfl p7 ?_
      refine wq_iconst rfl rfl ?_
      refine wq_iconst rfl rfl ?_
      obtain ⟨y19, e20, h⟩ := od_bindE h
      refine wd_virtN (q := 0) (y := y19) (as := [36893488147419103232, 25, y5.1, 0, 0]) rfl rfl rfl (by decide) (Nat.le_of_ble_eq_true rfl) (Nat.le_of_ble_eq_true rfl) rfl (Nat.le_of_ble_eq_true rfl) rfl (dkT_31 T16 (by decide) p7 (wm_zlt (by decide)) (wm_zlt (by decide)) e20) (fun T22 => ?_)
      refine wq_aload_n rfl rfl rfl ?_
      obtain ⟨y23, e24, h⟩ := od_bindE h
      refine wd_virtN (q := 0) (y := y23) (as := [36893488147419103232]) rfl rfl rfl (by decide) (Nat.le_of_ble_eq_true rfl) (Nat.le_of_ble_eq_true rfl) rfl (Nat.le_of_ble_eq_true rfl) rfl (dkT_224 T22 e24) (fun T26 => ?_)
      refine wq_iconst rfl rfl ?_
      exact wq_iret rfl (wm_zlt (by decide)) (Nat.blt_eq.mpr (by decide)) (wkOZ h T26 (by decide))
    · replace h := od_neg h h18
      refine wq_aload_n rfl rfl rfl ?_
      refine wq_bipush rfl rfl ?_
      refine wq_iload_n rfl rfl p7 ?_
      refine wq_iconst rfl rfl ?_
      refine wq_iconst rfl rfl ?_
      obtain ⟨y27, e28, h⟩ := od_bindE h
      refine wd_virtN (q := 0) (y := y27) (as := [36893488147419103232, 23, y5.1, 0, 0]) rfl rfl rfl (by decide) (Nat.le_of_ble_eq_true rfl) (Nat.le_of_ble_eq_true rfl) rfl (Nat.le_of_ble_eq_true rfl) rfl (dkT_31 T16 (by decide) p7 (wm_zlt (by decide)) (wm_zlt (by decide)) e28) (fun T30 => ?_)
      refine wq_aload_n rfl rfl rfl ?_
      refine wq_iconst rfl rfl ?_
      refine wq_iconst rfl rfl ?_
      refine wq_iconst rfl rfl ?_
      refine wq_iconst rfl rfl ?_
      obtain ⟨y31, e32, h⟩ := od_bindE h
      refine wd_virtN (q := 0) (y := y31) (as := [36893488147419103232, 3, 0, 0, 0]) rfl rfl rfl (by decide) (Nat.le_of_ble_eq_true rfl) (Nat.le_of_ble_eq_true rfl) rfl (Nat.le_of_ble_eq_true rfl) rfl (dkT_31 T30 (by decide) (wm_zlt (by decide)) (wm_zlt (by decide)) (wm_zlt (by decide)) e32) (fun T34 => ?_)
      refine wq_goto rfl rfl ?_
      refine wq_iconst rfl rfl ?_
      exact wq_iret rfl (wm_zlt (by decide)) (Nat.blt_eq.mpr (by decide)) (wkOZ h T34 (by decide))
  · replace h := od_pos h h17
    refine wq_iconst rfl rfl ?_
    exact wq_iret rfl (wm_zlt (by decide)) (Nat.blt_eq.mpr (by decide)) (wkOZ h T16 (by decide))
/-- X12_afterIf -/
def dk_259 (n : Nat) (F : wq_F) (a0 : Nat) (a1 : Nat) : Option (Nat × wq_F) :=
  (dk_34 F 5).bind fun y1 =>
  if y1.1 = 0 then
    (dk_34 y1.2 4).bind fun y6 =>
    if y6.1 = 0 then
      od_g (a0 < 14000) <|
      od_up y6.2 21 a0 (y6.2 0 41) fun F12 =>
      (dk_260 n F12 a1).bind fun y15 =>
      some (y15.1, y15.2)
    else
      dk_259_18 n y6.2 a0 a1
  else
    dk_259_18 n y1.2 a0 a1
theorem dkT_259 {d n : Nat} {F : wq_F} (hT : wm_T F) {a0 : Nat} (ha0 : a0 < 4294967296) {a1 : Nat} (ha1 : a1 < 4294967296) {x : Nat × wq_F} (h : dk_259 n F a0 a1 = some x) : mq (d + 4 + 1) 259 [36893488147419103232, a0, a1] wm_sh F (wkZ wm_T wm_sh x) := by
  have e : ev_ent [36893488147419103232, a0, a1] = [36893488147419103232, a0, a1] := by
    show 36893488147419103232 :: ev_ent [a0, a1] = _
    rw [wm_entI ha0, wm_entI ha1]
    rfl
  refine mq_of (maxL := 5) (rt := (some .boolean)) (code := (ev_un al_mX12_afterIf.2.2.2.2)) (L := [36893488147419103232, a0, a1, 73786976294838206464, 73786976294838206464]) rfl (by rw [e]; exact Nat.le_of_ble_eq_true rfl) (by rw [e]; rfl) ?_
  unfold dk_259 at h
  refine wq_iload_n rfl rfl ha1 ?_
  refine wq_istore_n rfl ha1 (Nat.le_of_ble_eq_true rfl) (Or.inr ⟨_, rfl, (wq_notL ha1)⟩) (L' := [36893488147419103232, a0, a1, a1, 73786976294838206464]) rfl ?_
  refine wq_aload_n rfl rfl rfl ?_
  refine wq_iconst rfl rfl ?_
  obtain ⟨y1, e2, h⟩ := od_bindE h
  refine wd_virtZ (q := 0) (y := y1) (as := [36893488147419103232, 5]) rfl rfl rfl (by decide) (Nat.le_of_ble_eq_true rfl) (Nat.le_of_ble_eq_true rfl) rfl (Nat.le_of_ble_eq_true rfl) rfl (dkT_34 hT (by decide) e2) (fun p3 T4 => ?_)
  refine wq_if_ne rfl rfl (wm_zlt p3) (fun h5 => ?_) (fun h5 => ?_)
  · replace h := od_neg h h5
    exact dk_259_18T T4 ha0 ha1 (wq_notL ha1) h
  · replace h := od_pos h h5
    refine wq_aload_n rfl rfl rfl ?_
    refine wq_iconst rfl rfl ?_
    obtain ⟨y6, e7, h⟩ := od_bindE h
    refine wd_virtZ (q := 0) (y := y6) (as := [36893488147419103232, 4]) rfl rfl rfl (by decide) (Nat.le_of_ble_eq_true rfl) (Nat.le_of_ble_eq_true rfl) rfl (Nat.le_of_ble_eq_true rfl) rfl (dkT_34 T4 (by decide) e7) (fun p8 T9 => ?_)
    refine wq_if_eq rfl rfl (wm_zlt p8) (fun h10 => ?_) (fun h10 => ?_)
    · replace h := od_pos h h10
      refine wq_aload_n rfl rfl rfl ?_
      refine wm_getR (v := 36893488147419103253) rfl (by decide) (T9.r 36 20 rfl) ?_
      refine wq_iload_n rfl rfl ha0 ?_
      refine wq_aload_n rfl rfl rfl ?_
      refine wm_getI rfl (by decide) ?_
      obtain ⟨g11, h⟩ := od_gE h
      obtain ⟨F12, e13, h⟩ := od_upE h
      refine wd_iastore (q := 21) (n := 14000) rfl rfl (by decide) g11 (by decide) (T9.i 41 rfl) e13 ?_
      have T14 : wm_T F12 := wd_T e13 (T9.ua (k := 21) (kd := 1000) (n := 14000) (i := a0) (v := y6.2 0 41) rfl (by decide) g11 (show y6.2 0 41 < 4294967296 from (T9.i 41 rfl)))
      refine wq_aload_n rfl rfl rfl ?_
      refine wq_iload_n rfl rfl ha1 ?_
      obtain ⟨y15, e16, h⟩ := od_bindE h
      refine wd_virtZ (q := 0) (y := y15) (as := [36893488147419103232, a1]) rfl rfl rfl (by decide) (Nat.le_of_ble_eq_true rfl) (Nat.le_of_ble_eq_true rfl) rfl (Nat.le_of_ble_eq_true rfl) rfl (dkT_260 T14 ha1 e16) (fun p17 T18 => ?_)
      exact wq_iret rfl (wm_zlt p17) (Nat.blt_eq.mpr p17) (wkOZ h T18 p17)
    · replace h := od_neg h h10
      exact dk_259_18T T9 ha0 ha1 (wq_notL ha1) h
/-- X12_whileDo -/
def dk_261 (F : wq_F) (a0 : Nat) : Option (Nat × wq_F) :=
  (dk_214 F 3).bind fun y1 =>
  if y1.1 = 0 then
    some (0, y1.2)
  else
    (dk_227 y1.2).bind fun y6 =>
    od_let (((y6.2 0 56) + (4294967296 - 1)) % 4294967296) fun y10 =>
    (dk_30 y6.2 22 4294967295 0 0).bind fun y13 =>
    od_g (y10 < 64) <|
    od_up y13.2 33 y10 y13.1 fun F18 =>
    (dk_218 F18).bind fun y21 =>
    od_g (y21.1 < 51) <|
    (dk_31 y21.2 27 a0 (y21.2 14 y21.1) 0).bind fun y26 =>
    (dk_224 y26.2).bind fun y30 =>
    some (1, y30.2)
theorem dkT_261 {d : Nat} {F : wq_F} (hT : wm_T F) {a0 : Nat} (ha0 : a0 < 4294967296) {x : Nat × wq_F} (h : dk_261 F a0 = some x) : mq (d + 3 + 1) 261 [36893488147419103232, a0] wm_sh F (wkZ wm_T wm_sh x) := by
  have e : ev_ent [36893488147419103232, a0] = [36893488147419103232, a0] := by
    show 36893488147419103232 :: ev_ent [a0] = _
    rw [wm_entI ha0]
    rfl
  refine mq_of (maxL := 2) (rt := (some .boolean)) (code := (ev_un al_mX12_whileDo.2.2.2.2)) (L := [36893488147419103232, a0]) rfl (by rw [e]; exact Nat.le_of_ble_eq_true rfl) (by rw [e]; rfl) ?_
  unfold dk_261 at h
  refine wq_aload_n rfl rfl rfl ?_
  refine wq_iconst rfl rfl ?_
  obtain ⟨y1, e2, h⟩ := od_bindE h
  refine wd_virtZ (q := 0) (y := y1) (as := [36893488147419103232, 3]) rfl rfl rfl (by decide) (Nat.le_of_ble_eq_true rfl) (Nat.le_of_ble_eq_true rfl) rfl (Nat.le_of_ble_eq_true rfl) rfl (dkT_214 hT (by decide) e2) (fun p3 T4 => ?_)
  refine wq_if_ne rfl rfl (wm_zlt p3) (fun h5 => ?_) (fun h5 => ?_)
  · replace h := od_neg h h5
    refine wq_aload_n rfl rfl rfl ?_
    obtain ⟨y6, e7, h⟩ := od_bindE h
    refine wd_virtN (q := 0) (y := y6) (as := [36893488147419103232]) rfl rfl rfl (by decide) (Nat.le_of_ble_eq_true rfl) (Nat.le_of_ble_eq_true rfl) rfl (Nat.le_of_ble_eq_true rfl) rfl (dkT_227 T4 e7) (fun T9 => ?_)
    refine wq_aload_n rfl rfl rfl ?_
    refine wm_getR (v := 36893488147419103265) rfl (by decide) (T9.r 54 32 rfl) ?_
    refine wq_aload_n rfl rfl rfl ?_
    refine wm_getI rfl (by decide) ?_
    refine wq_iconst rfl rfl ?_
    refine wq_isubZ rfl (T9.i 56 rfl) (wm_zlt (by decide)) (z := ((y6.2 0 56) + (4294967296 - 1)) % 4294967296) rfl ?_
    obtain ⟨y10, e11, h⟩ := od_letE h
    refine wq_top e11.symm ?_
    have p12 : y10 < 4294967296 := wd_lt e11 (Nat.mod_lt _ (by decide))
    refine wq_aload_n rfl rfl rfl ?_
    refine wq_bipush rfl rfl ?_
    refine wq_iconst rfl rfl ?_
    refine wq_iconst rfl rfl ?_
    refine wq_iconst rfl rfl ?_
    obtain ⟨y13, e14, h⟩ := od_bindE h
    refine wd_virtI (q := 0) (y := y13) (as := [36893488147419103232, 22, 4294967295, 0, 0]) rfl rfl rfl (by decide) (Nat.le_of_ble_eq_true rfl) (Nat.le_of_ble_eq_true rfl) rfl (Nat.le_of_ble_eq_true rfl) rfl (dkT_30 T9 (by decide) (by decide) (wm_zlt (by decide)) (wm_zlt (by decide)) e14) (fun p15 T16 => ?_)
    obtain ⟨g17, h⟩ := od_gE h
    obtain ⟨F18, e19, h⟩ := od_upE h
    refine wd_iastore (q := 33) (n := 64) rfl rfl (by decide) g17 (by decide) p15 e19 ?_
    have T20 : wm_T F18 := wd_T e19 (T16.ua (k := 33) (kd := 1000) (n := 64) (i := y10) (v := y13.1) rfl (by decide) g17 (show y13.1 < 4294967296 from p15))
    refine wq_aload_n rfl rfl rfl ?_
    refine wq_bipush rfl rfl ?_
    refine wq_iload_n rfl rfl ha0 ?_
    refine wq_aload_n rfl rfl rfl ?_
    refine wm_getR (v := 36893488147419103246) rfl (by decide) (T20.r 28 13 rfl) ?_
    refine wq_aload_n rfl rfl rfl ?_
    obtain ⟨y21, e22, h⟩ := od_bindE h
    refine wd_virtI (q := 0) (y := y21) (as := [36893488147419103232]) rfl rfl rfl (by decide) (Nat.le_of_ble_eq_true rfl) (Nat.le_of_ble_eq_true rfl) rfl (Nat.le_of_ble_eq_true rfl) rfl (dkT_218 T20 e22) (fun p23 T24 => ?_)
    obtain ⟨g25, h⟩ := od_gE h
    refine wq_iaload (q := 14) (n := 51) rfl rfl (by decide) g25 (by decide) ?_
    refine wq_iconst rfl rfl ?_
    obtain ⟨y26, e27, h⟩ := od_bindE h
    refine wd_virtN (q := 0) (y := y26) (as := [36893488147419103232, 27, a0, y21.2 14 y21.1, 0]) rfl rfl rfl (by decide) (Nat.le_of_ble_eq_true rfl) (Nat.le_of_ble_eq_true rfl) rfl (Nat.le_of_ble_eq_true rfl) rfl (dkT_31 T24 (by decide) ha0 (T24.ai (k := 14) rfl g25) (wm_zlt (by decide)) e27) (fun T29 => ?_)
    refine wq_aload_n rfl rfl rfl ?_
    obtain ⟨y30, e31, h⟩ := od_bindE h
    refine wd_virtN (q := 0) (y := y30) (as := [36893488147419103232]) rfl rfl rfl (by decide) (Nat.le_of_ble_eq_true rfl) (Nat.le_of_ble_eq_true rfl) rfl (Nat.le_of_ble_eq_true rfl) rfl (dkT_224 T29 e31) (fun T33 => ?_)
    refine wq_iconst rfl rfl ?_
    exact wq_iret rfl (wm_zlt (by decide)) (Nat.blt_eq.mpr (by decide)) (wkOZ h T33 (by decide))
  · replace h := od_pos h h5
    refine wq_iconst rfl rfl ?_
    exact wq_iret rfl (wm_zlt (by decide)) (Nat.blt_eq.mpr (by decide)) (wkOZ h T4 (by decide))
def dk_228_20b (n : Nat) (r20 : wq_F → Nat → Nat → Option (Nat × wq_F)) (F : wq_F) (v1 : Nat) (v2 : Nat) : Option (Nat × wq_F) :=
  if 2147483648 ≤ v2 then
    (dk_30 F 20 v1 0 0).bind fun y2 =>
    some (0, y2.2)
  else
    od_g (v2 < 14000) <|
    od_g (v2 < 14000) <|
    od_up F 21 v2 (F 0 41) fun F8 =>
    r20 F8 v1 (F 21 v2)
theorem dk_228_20bT {d n : Nat} {r20 : wq_F → Nat → Nat → Option (Nat × wq_F)} (hr20 : ∀ ⦃u3 : Nat⦄ ⦃F : wq_F⦄ (hT : wm_T F) ⦃v1 : Nat⦄ (hv1 : v1 < 4294967296) ⦃v2 : Nat⦄ (hv2 : v2 < 4294967296) (hu3 : ev_isL u3 = false) ⦃x : Nat × wq_F⦄ (h : r20 F v1 v2 = some x), wq (wq_cf (d + 1)) (ev_un al_mX12_closeLoop.2.2.2.2) none 20 [36893488147419103232, v1, v2, u3] [] wm_sh F 0 0 (wkN wm_T wm_sh x)) : ∀ ⦃u3 : Nat⦄ ⦃F : wq_F⦄ (hT : wm_T F) ⦃v1 : Nat⦄ (hv1 : v1 < 4294967296) ⦃v2 : Nat⦄ (hv2 : v2 < 4294967296) (hu3 : ev_isL u3 = false) ⦃x : Nat × wq_F⦄ (h : dk_228_20b n r20 F v1 v2 = some x), wq (wq_cf (d + 1)) (ev_un al_mX12_closeLoop.2.2.2.2) none 20 [36893488147419103232, v1, v2, u3] [] wm_sh F 0 0 (wkN wm_T wm_sh x) := by
  intro u3 F hT v1 hv1 v2 hv2 hu3 x h
  unfold dk_228_20b at h
  refine wq_iload_n rfl rfl hv2 ?_
  refine wq_if_lt rfl rfl hv2 (fun h1 => ?_) (fun h1 => ?_)
  · replace h := od_pos h h1
    refine wq_aload_n rfl rfl rfl ?_
    refine wq_bipush rfl rfl ?_
    refine wq_iload_n rfl rfl hv1 ?_
    refine wq_iconst rfl rfl ?_
    refine wq_iconst rfl rfl ?_
    obtain ⟨y2, e3, h⟩ := od_bindE h
    refine wd_virtI (q := 0) (y := y2) (as := [36893488147419103232, 20, v1, 0, 0]) rfl rfl rfl (by decide) (Nat.le_of_ble_eq_true rfl) (Nat.le_of_ble_eq_true rfl) rfl (Nat.le_of_ble_eq_true rfl) rfl (dkT_30 hT (by decide) hv1 (wm_zlt (by decide)) (wm_zlt (by decide)) e3) (fun p4 T5 => ?_)
    refine wq_istore_n rfl p4 (Nat.le_of_ble_eq_true rfl) (Or.inr ⟨_, rfl, (wq_notL hv2)⟩) (L' := [36893488147419103232, v1, v2, y2.1]) rfl ?_
    exact wq_ret rfl (wkON h T5)
  · replace h := od_neg h (Nat.not_le.mpr h1)
    refine wq_aload_n rfl rfl rfl ?_
    refine wm_getR (v := 36893488147419103253) rfl (by decide) (hT.r 36 20 rfl) ?_
    refine wq_iload_n rfl rfl hv2 ?_
    obtain ⟨g6, h⟩ := od_gE h
    refine wq_iaload (q := 21) (n := 14000) rfl rfl (by decide) g6 (by decide) ?_
    refine wq_istore_n rfl (hT.ai (k := 21) rfl g6) (Nat.le_of_ble_eq_true rfl) (Or.inr ⟨_, rfl, (wq_notL hv2)⟩) (L' := [36893488147419103232, v1, v2, F 21 v2]) rfl ?_
    refine wq_aload_n rfl rfl rfl ?_
    refine wm_getR (v := 36893488147419103253) rfl (by decide) (hT.r 36 20 rfl) ?_
    refine wq_iload_n rfl rfl hv2 ?_
    refine wq_aload_n rfl rfl rfl ?_
    refine wm_getI rfl (by decide) ?_
    obtain ⟨g7, h⟩ := od_gE h
    obtain ⟨F8, e9, h⟩ := od_upE h
    refine wd_iastore (q := 21) (n := 14000) rfl rfl (by decide) g7 (by decide) (hT.i 41 rfl) e9 ?_
    have T10 : wm_T F8 := wd_T e9 (hT.ua (k := 21) (kd := 1000) (n := 14000) (i := v2) (v := F 0 41) rfl (by decide) g7 (show F 0 41 < 4294967296 from (hT.i 41 rfl)))
    refine wq_iload_n rfl rfl (hT.ai (k := 21) rfl g6) ?_
    refine wq_istore_n rfl (hT.ai (k := 21) rfl g6) (Nat.le_of_ble_eq_true rfl) (Or.inr ⟨_, rfl, (wq_notL hv1)⟩) (L' := [36893488147419103232, v1, F 21 v2, F 21 v2]) rfl ?_
    refine wq_goto rfl rfl ?_
    exact hr20 T10 hv1 (hT.ai (k := 21) rfl g6) (wq_notL (hT.ai (k := 21) rfl g6)) h
def dk_228_20 (n : Nat) : Nat → wq_F → Nat → Nat → Option (Nat × wq_F)
  | 0 => fun _ _ _ => none
  | g + 1 => dk_228_20b n (dk_228_20 n g)
theorem dk_228_20T {d n : Nat} : ∀ g : Nat, ∀ ⦃u3 : Nat⦄ ⦃F : wq_F⦄ (hT : wm_T F) ⦃v1 : Nat⦄ (hv1 : v1 < 4294967296) ⦃v2 : Nat⦄ (hv2 : v2 < 4294967296) (hu3 : ev_isL u3 = false) ⦃x : Nat × wq_F⦄ (h : dk_228_20 n g F v1 v2 = some x), wq (wq_cf (d + 1)) (ev_un al_mX12_closeLoop.2.2.2.2) none 20 [36893488147419103232, v1, v2, u3] [] wm_sh F 0 0 (wkN wm_T wm_sh x)
  | 0 => by
    intro u3 F hT v1 hv1 v2 hv2 hu3 x h
    cases h
  | g + 1 => dk_228_20bT (dk_228_20T g)
/-- X12_closeLoop -/
def dk_228 (n : Nat) (F : wq_F) (a0 : Nat) : Option (Nat × wq_F) :=
  od_let (((F 0 56) + (4294967296 - 1)) % 4294967296) fun y1 =>
  od_up F 0 56 y1 fun F4 =>
  od_g (F4 0 56 < 64) <|
  dk_228_20 n n F4 a0 (F4 33 (F4 0 56))
theorem dkT_228 {d n : Nat} {F : wq_F} (hT : wm_T F) {a0 : Nat} (ha0 : a0 < 4294967296) {x : Nat × wq_F} (h : dk_228 n F a0 = some x) : mq (d + 1 + 1) 228 [36893488147419103232, a0] wm_sh F (wkN wm_T wm_sh x) := by
  have e : ev_ent [36893488147419103232, a0] = [36893488147419103232, a0] := by
    show 36893488147419103232 :: ev_ent [a0] = _
    rw [wm_entI ha0]
    rfl
  refine mq_of (maxL := 4) (rt := none) (code := (ev_un al_mX12_closeLoop.2.2.2.2)) (L := [36893488147419103232, a0, 73786976294838206464, 73786976294838206464]) rfl (by rw [e]; exact Nat.le_of_ble_eq_true rfl) (by rw [e]; rfl) ?_
  unfold dk_228 at h
  refine wq_aload_n rfl rfl rfl ?_
  refine wq_dup rfl rfl ?_
  refine wm_getI rfl (by decide) ?_
  refine wq_iconst rfl rfl ?_
  refine wq_isubZ rfl (hT.i 56 rfl) (wm_zlt (by decide)) (z := ((F 0 56) + (4294967296 - 1)) % 4294967296) rfl ?_
  obtain ⟨y1, e2, h⟩ := od_letE h
  refine wq_top e2.symm ?_
  have p3 : y1 < 4294967296 := wd_lt e2 (Nat.mod_lt _ (by decide))
  obtain ⟨F4, e5, h⟩ := od_upE h
  refine wmE_put rfl (by decide) (wq_I p3) e5 ?_
  have T6 : wm_T F4 := wd_T e5 (hT.uf (f := 56) (c := 0) (v := y1) rfl (show y1 < 4294967296 from p3))
  refine wq_aload_n rfl rfl rfl ?_
  refine wm_getR (v := 36893488147419103265) rfl (by decide) (T6.r 54 32 rfl) ?_
  refine wq_aload_n rfl rfl rfl ?_
  refine wm_getI rfl (by decide) ?_
  obtain ⟨g7, h⟩ := od_gE h
  refine wq_iaload (q := 33) (n := 64) rfl rfl (by decide) g7 (by decide) ?_
  refine wq_istore_n rfl (T6.ai (k := 33) rfl g7) (Nat.le_of_ble_eq_true rfl) (Or.inr ⟨_, rfl, (wq_notL ha0)⟩) (L' := [36893488147419103232, a0, F4 33 (F4 0 56), 73786976294838206464]) rfl ?_
  exact dk_228_20T n T6 ha0 (T6.ai (k := 33) rfl g7) rfl h
/-- X12_whileEnd -/
def dk_262 (n : Nat) (F : wq_F) (a0 : Nat) (a1 : Nat) : Option (Nat × wq_F) :=
  (dk_214 F 6).bind fun y1 =>
  if y1.1 = 0 then
    some (0, y1.2)
  else
    (dk_30 y1.2 21 a0 0 0).bind fun y6 =>
    (dk_228 n y6.2 a1).bind fun y10 =>
    some (1, y10.2)
theorem dkT_262 {d n : Nat} {F : wq_F} (hT : wm_T F) {a0 : Nat} (ha0 : a0 < 4294967296) {a1 : Nat} (ha1 : a1 < 4294967296) {x : Nat × wq_F} (h : dk_262 n F a0 a1 = some x) : mq (d + 3 + 1) 262 [36893488147419103232, a0, a1] wm_sh F (wkZ wm_T wm_sh x) := by
  have e : ev_ent [36893488147419103232, a0, a1] = [36893488147419103232, a0, a1] := by
    show 36893488147419103232 :: ev_ent [a0, a1] = _
    rw [wm_entI ha0, wm_entI ha1]
    rfl
  refine mq_of (maxL := 4) (rt := (some .boolean)) (code := (ev_un al_mX12_whileEnd.2.2.2.2)) (L := [36893488147419103232, a0, a1, 73786976294838206464]) rfl (by rw [e]; exact Nat.le_of_ble_eq_true rfl) (by rw [e]; rfl) ?_
  unfold dk_262 at h
  refine wq_aload_n rfl rfl rfl ?_
  refine wq_bipush rfl rfl ?_
  obtain ⟨y1, e2, h⟩ := od_bindE h
  refine wd_virtZ (q := 0) (y := y1) (as := [36893488147419103232, 6]) rfl rfl rfl (by decide) (Nat.le_of_ble_eq_true rfl) (Nat.le_of_ble_eq_true rfl) rfl (Nat.le_of_ble_eq_true rfl) rfl (dkT_214 hT (by decide) e2) (fun p3 T4 => ?_)
  refine wq_if_ne rfl rfl (wm_zlt p3) (fun h5 => ?_) (fun h5 => ?_)
  · replace h := od_neg h h5
    refine wq_aload_n rfl rfl rfl ?_
    refine wq_bipush rfl rfl ?_
    refine wq_iload_n rfl rfl ha0 ?_
    refine wq_iconst rfl rfl ?_
    refine wq_iconst rfl rfl ?_
    obtain ⟨y6, e7, h⟩ := od_bindE h
    refine wd_virtI (q := 0) (y := y6) (as := [36893488147419103232, 21, a0, 0, 0]) rfl rfl rfl (by decide) (Nat.le_of_ble_eq_true rfl) (Nat.le_of_ble_eq_true rfl) rfl (Nat.le_of_ble_eq_true rfl) rfl (dkT_30 T4 (by decide) ha0 (wm_zlt (by decide)) (wm_zlt (by decide)) e7) (fun p8 T9 => ?_)
    refine wq_istore_n rfl p8 (Nat.le_of_ble_eq_true rfl) (Or.inr ⟨_, rfl, (wq_notL ha1)⟩) (L' := [36893488147419103232, a0, a1, y6.1]) rfl ?_
    refine wq_aload_n rfl rfl rfl ?_
    refine wq_iload_n rfl rfl ha1 ?_
    obtain ⟨y10, e11, h⟩ := od_bindE h
    refine wd_virtN (q := 0) (y := y10) (as := [36893488147419103232, a1]) rfl rfl rfl (by decide) (Nat.le_of_ble_eq_true rfl) (Nat.le_of_ble_eq_true rfl) rfl (Nat.le_of_ble_eq_true rfl) rfl (dkT_228 T9 ha1 e11) (fun T13 => ?_)
    refine wq_iconst rfl rfl ?_
    exact wq_iret rfl (wm_zlt (by decide)) (Nat.blt_eq.mpr (by decide)) (wkOZ h T13 (by decide))
  · replace h := od_pos h h5
    refine wq_iconst rfl rfl ?_
    exact wq_iret rfl (wm_zlt (by decide)) (Nat.blt_eq.mpr (by decide)) (wkOZ h T4 (by decide))
/-- X12_until -/
def dk_263 (F : wq_F) (a0 : Nat) (a1 : Nat) (a2 : Nat) : Option (Nat × wq_F) :=
  (dk_214 F 20).bind fun y1 =>
  if y1.1 = 0 then
    some (0, y1.2)
  else
    (dk_30 y1.2 0 0 0 0).bind fun y6 =>
    (dk_31 y6.2 29 a0 a1 a2).bind fun y10 =>
    (dk_31 y10.2 3 0 0 0).bind fun y14 =>
    some (1, y14.2)
theorem dkT_263 {d : Nat} {F : wq_F} (hT : wm_T F) {a0 : Nat} (ha0 : a0 < 4294967296) {a1 : Nat} (ha1 : a1 < 4294967296) {a2 : Nat} (ha2 : a2 < 4294967296) {x : Nat × wq_F} (h : dk_263 F a0 a1 a2 = some x) : mq (d + 3 + 1) 263 [36893488147419103232, a0, a1, a2] wm_sh F (wkZ wm_T wm_sh x) := by
  have e : ev_ent [36893488147419103232, a0, a1, a2] = [36893488147419103232, a0, a1, a2] := by
    show 36893488147419103232 :: ev_ent [a0, a1, a2] = _
    rw [wm_entI ha0, wm_entI ha1, wm_entI ha2]
    rfl
  refine mq_of (maxL := 5) (rt := (some .boolean)) (code := (ev_un al_mX12_until.2.2.2.2)) (L := [36893488147419103232, a0, a1, a2, 73786976294838206464]) rfl (by rw [e]; exact Nat.le_of_ble_eq_true rfl) (by rw [e]; rfl) ?_
  unfold dk_263 at h
  refine wq_aload_n rfl rfl rfl ?_
  refine wq_bipush rfl rfl ?_
  obtain ⟨y1, e2, h⟩ := od_bindE h
  refine wd_virtZ (q := 0) (y := y1) (as := [36893488147419103232, 20]) rfl rfl rfl (by decide) (Nat.le_of_ble_eq_true rfl) (Nat.le_of_ble_eq_true rfl) rfl (Nat.le_of_ble_eq_true rfl) rfl (dkT_214 hT (by decide) e2) (fun p3 T4 => ?_)
  refine wq_if_ne rfl rfl (wm_zlt p3) (fun h5 => ?_) (fun h5 => ?_)
  · replace h := od_neg h h5
    refine wq_aload_n rfl rfl rfl ?_
    refine wq_iconst rfl rfl ?_
    refine wq_iconst rfl rfl ?_
    refine wq_iconst rfl rfl ?_
    refine wq_iconst rfl rfl ?_
    obtain ⟨y6, e7, h⟩ := od_bindE h
    refine wd_virtI (q := 0) (y := y6) (as := [36893488147419103232, 0, 0, 0, 0]) rfl rfl rfl (by decide) (Nat.le_of_ble_eq_true rfl) (Nat.le_of_ble_eq_true rfl) rfl (Nat.le_of_ble_eq_true rfl) rfl (dkT_30 T4 (wm_zlt (by decide)) (wm_zlt (by decide)) (wm_zlt (by decide)) (wm_zlt (by decide)) e7) (fun p8 T9 => ?_)
    refine wq_istore rfl p8 (Nat.le_of_ble_eq_true rfl) (Or.inr ⟨_, rfl, (wq_notL ha2)⟩) (L' := [36893488147419103232, a0, a1, a2, y6.1]) rfl ?_
    refine wq_aload_n rfl rfl rfl ?_
    refine wq_bipush rfl rfl ?_
    refine wq_iload_n rfl rfl ha0 ?_
    refine wq_iload_n rfl rfl ha1 ?_
    refine wq_iload_n rfl rfl ha2 ?_
    obtain ⟨y10, e11, h⟩ := od_bindE h
    refine wd_virtN (q := 0) (y := y10) (as := [36893488147419103232, 29, a0, a1, a2]) rfl rfl rfl (by decide) (Nat.le_of_ble_eq_true rfl) (Nat.le_of_ble_eq_true rfl) rfl (Nat.le_of_ble_eq_true rfl) rfl (dkT_31 T9 (by decide) ha0 ha1 ha2 e11) (fun T13 => ?_)
    refine wq_aload_n rfl rfl rfl ?_
    refine wq_iconst rfl rfl ?_
    refine wq_iconst rfl rfl ?_
    refine wq_iconst rfl rfl ?_
    refine wq_iconst rfl rfl ?_
    obtain ⟨y14, e15, h⟩ := od_bindE h
    refine wd_virtN (q := 0) (y := y14) (as := [36893488147419103232, 3, 0, 0, 0]) rfl rfl rfl (by decide) (Nat.le_of_ble_eq_true rfl) (Nat.le_of_ble_eq_true rfl) rfl (Nat.le_of_ble_eq_true rfl) rfl (dkT_31 T13 (by decide) (wm_zlt (by decide)) (wm_zlt (by decide)) (wm_zlt (by decide)) e15) (fun T17 => ?_)
    refine wq_iconst rfl rfl ?_
    exact wq_iret rfl (wm_zlt (by decide)) (Nat.blt_eq.mpr (by decide)) (wkOZ h T17 (by decide))
  · replace h := od_pos h h5
    refine wq_iconst rfl rfl ?_
    exact wq_iret rfl (wm_zlt (by decide)) (Nat.blt_eq.mpr (by decide)) (wkOZ h T4 (by decide))
/-- X12_untilEnd -/
def dk_264 (n : Nat) (F : wq_F) (a0 : Nat) (a1 : Nat) (a2 : Nat) : Option (Nat × wq_F) :=
  (dk_225 F a1).bind fun y1 =>
  (dk_30 y1.2 22 a0 0 0).bind fun y5 =>
  (dk_228 n y5.2 a2).bind fun y9 =>
  some (1, y9.2)
theorem dkT_264 {d n : Nat} {F : wq_F} (hT : wm_T F) {a0 : Nat} (ha0 : a0 < 4294967296) {a1 : Nat} (ha1 : a1 < 4294967296) {a2 : Nat} (ha2 : a2 < 4294967296) {x : Nat × wq_F} (h : dk_264 n F a0 a1 a2 = some x) : mq (d + 2 + 1) 264 [36893488147419103232, a0, a1, a2] wm_sh F (wkZ wm_T wm_sh x) := by
  have e : ev_ent [36893488147419103232, a0, a1, a2] = [36893488147419103232, a0, a1, a2] := by
    show 36893488147419103232 :: ev_ent [a0, a1, a2] = _
    rw [wm_entI ha0, wm_entI ha1, wm_entI ha2]
    rfl
  refine mq_of (maxL := 5) (rt := (some .boolean)) (code := (ev_un al_mX12_untilEnd.2.2.2.2)) (L := [36893488147419103232, a0, a1, a2, 73786976294838206464]) rfl (by rw [e]; exact Nat.le_of_ble_eq_true rfl) (by rw [e]; rfl) ?_
  unfold dk_264 at h
  refine wq_aload_n rfl rfl rfl ?_
  refine wq_iload_n rfl rfl ha1 ?_
  obtain ⟨y1, e2, h⟩ := od_bindE h
  refine wd_virtN (q := 0) (y := y1) (as := [36893488147419103232, a1]) rfl rfl rfl (by decide) (Nat.le_of_ble_eq_true rfl) (Nat.le_of_ble_eq_true rfl) rfl (Nat.le_of_ble_eq_true rfl) rfl (dkT_225 hT ha1 e2) (fun T4 => ?_)
  refine wq_aload_n rfl rfl rfl ?_
  refine wq_bipush rfl rfl ?_
  refine wq_iload_n rfl rfl ha0 ?_
  refine wq_iconst rfl rfl ?_
  refine wq_iconst rfl rfl ?_
  obtain ⟨y5, e6, h⟩ := od_bindE h
  refine wd_virtI (q := 0) (y := y5) (as := [36893488147419103232, 22, a0, 0, 0]) rfl rfl rfl (by decide) (Nat.le_of_ble_eq_true rfl) (Nat.le_of_ble_eq_true rfl) rfl (Nat.le_of_ble_eq_true rfl) rfl (dkT_30 T4 (by decide) ha0 (wm_zlt (by decide)) (wm_zlt (by decide)) e6) (fun p7 T8 => ?_)
  refine wq_istore rfl p7 (Nat.le_of_ble_eq_true rfl) (Or.inr ⟨_, rfl, (wq_notL ha2)⟩) (L' := [36893488147419103232, a0, a1, a2, y5.1]) rfl ?_
  refine wq_aload_n rfl rfl rfl ?_
  refine wq_iload_n rfl rfl ha2 ?_
  obtain ⟨y9, e10, h⟩ := od_bindE h
  refine wd_virtN (q := 0) (y := y9) (as := [36893488147419103232, a2]) rfl rfl rfl (by decide) (Nat.le_of_ble_eq_true rfl) (Nat.le_of_ble_eq_true rfl) rfl (Nat.le_of_ble_eq_true rfl) rfl (dkT_228 T8 ha2 e10) (fun T12 => ?_)
  refine wq_iconst rfl rfl ?_
  exact wq_iret rfl (wm_zlt (by decide)) (Nat.blt_eq.mpr (by decide)) (wkOZ h T12 (by decide))
