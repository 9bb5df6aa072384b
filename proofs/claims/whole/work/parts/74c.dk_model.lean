/-! ===== 74c: the reference: methods as functions on memories (by wip/whole2/law73.py, dc.py): 233 X12_readFor, 221 X12_captured, 222 X12_resolve, 223 X12_discharge, 232 X12_readFunction, 220 X12_know, 231 X12_localRow, 230 X12_readLocal, 229 X12_readBreak, 226 X12_statement ===== -/
def dk_233_85b (n : Nat) (r85 : wq_F → Nat → Nat → Nat → Option (Nat × wq_F)) (F : wq_F) (v2 : Nat) (v3 : Nat) (v4 : Nat) : Option (Nat × wq_F) :=
  (dk_36 F 44).bind fun y1 =>
  if y1.1 = 0 then
    (dk_215 y1.2).bind fun y6 =>
    (dk_214 y6.2 11).bind fun y10 =>
    if y10.1 = 0 then
      some (0, y10.2)
    else
      (dk_217 y10.2).bind fun y15 =>
      if y15.1 = 0 then
        (dk_211 y15.2).bind fun y39 =>
        some (y39.1, y39.2)
      else
        (dk_30 y15.2 14 0 0 0).bind fun y20 =>
        od_let (((ev_oMul v4 100) + v3) % 4294967296) fun y24 =>
        (dk_31 y20.2 35 y6.1 v2 y24).bind fun y27 =>
        (dk_31 y27.2 14 0 0 0).bind fun y31 =>
        (dk_31 y31.2 3 0 0 0).bind fun y35 =>
        some (1, y35.2)
  else
    (dk_212 y1.2).bind fun y43 =>
    if y43.1 = 0 then
      some (0, y43.2)
    else
      od_g (y43.2 0 25 < 1502) <|
      if (y43.2 9 (y43.2 0 25)) = 1 then
        (dk_210 y43.2).bind fun y50 =>
        (dk_219 y50.2 y50.1).bind fun y54 =>
        if 2147483648 ≤ y54.1 then
          some (0, y54.2)
        else
          (dk_212 y54.2).bind fun y59 =>
          if y59.1 = 0 then
            some (0, y59.2)
          else
            od_let ((v4 + 1) % 4294967296) fun y64 =>
            r85 y59.2 v2 v3 y64
      else
        (dk_211 y43.2).bind fun y67 =>
        some (y67.1, y67.2)
theorem dk_233_85bT {d n : Nat} {r85 : wq_F → Nat → Nat → Nat → Option (Nat × wq_F)} (hr85 : ∀ ⦃u1 : Nat⦄ ⦃F : wq_F⦄ (hT : wm_T F) ⦃v2 : Nat⦄ (hv2 : v2 < 4294967296) ⦃v3 : Nat⦄ (hv3 : v3 < 4294967296) ⦃v4 : Nat⦄ (hv4 : v4 < 4294967296) (hu1 : ev_isL u1 = false) ⦃x : Nat × wq_F⦄ (h : r85 F v2 v3 v4 = some x), wq (wq_cf (d + 3)) (ev_un al_mX12_readFor.2.2.2.2) (some .boolean) 85 [36893488147419103232, u1, v2, v3, v4, 73786976294838206464, 73786976294838206464] [] wm_sh F 0 0 (wkZ wm_T wm_sh x)) : ∀ ⦃u1 : Nat⦄ ⦃F : wq_F⦄ (hT : wm_T F) ⦃v2 : Nat⦄ (hv2 : v2 < 4294967296) ⦃v3 : Nat⦄ (hv3 : v3 < 4294967296) ⦃v4 : Nat⦄ (hv4 : v4 < 4294967296) (hu1 : ev_isL u1 = false) ⦃x : Nat × wq_F⦄ (h : dk_233_85b n r85 F v2 v3 v4 = some x), wq (wq_cf (d + 3)) (ev_un al_mX12_readFor.2.2.2.2) (some .boolean) 85 [36893488147419103232, u1, v2, v3, v4, 73786976294838206464, 73786976294838206464] [] wm_sh F 0 0 (wkZ wm_T wm_sh x) := by
  intro u1 F hT v2 hv2 v3 hv3 v4 hv4 hu1 x h
  unfold dk_233_85b at h
  refine wq_aload_n rfl rfl rfl ?_
  refine wq_bipush rfl rfl ?_
  obtain ⟨y1, e2, h⟩ := od_bindE h
  refine wd_virtZ (q := 0) (y := y1) (as := [36893488147419103232, 44]) rfl rfl rfl (by decide) (Nat.le_of_ble_eq_true rfl) (Nat.le_of_ble_eq_true rfl) rfl (Nat.le_of_ble_eq_true rfl) rfl (dkT_36 hT (by decide) e2) (fun p3 T4 => ?_)
  refine wq_if_eq rfl rfl (wm_zlt p3) (fun h5 => ?_) (fun h5 => ?_)
  · replace h := od_pos h h5
    refine wq_aload_n rfl rfl rfl ?_
    obtain ⟨y6, e7, h⟩ := od_bindE h
    refine wd_virtI (q := 0) (y := y6) (as := [36893488147419103232]) rfl rfl rfl (by decide) (Nat.le_of_ble_eq_true rfl) (Nat.le_of_ble_eq_true rfl) rfl (Nat.le_of_ble_eq_true rfl) rfl (dkT_215 T4 e7) (fun p8 T9 => ?_)
    refine wq_istore rfl p8 (Nat.le_of_ble_eq_true rfl) (Or.inr ⟨_, rfl, (wq_notL hv4)⟩) (L' := [36893488147419103232, u1, v2, v3, v4, y6.1, 73786976294838206464]) rfl ?_
    refine wq_aload_n rfl rfl rfl ?_
    refine wq_bipush rfl rfl ?_
    obtain ⟨y10, e11, h⟩ := od_bindE h
    refine wd_virtZ (q := 0) (y := y10) (as := [36893488147419103232, 11]) rfl rfl rfl (by decide) (Nat.le_of_ble_eq_true rfl) (Nat.le_of_ble_eq_true rfl) rfl (Nat.le_of_ble_eq_true rfl) rfl (dkT_214 T9 (by decide) e11) (fun p12 T13 => ?_)
    refine wq_if_ne rfl rfl (wm_zlt p12) (fun h14 => ?_) (fun h14 => ?_)
    · replace h := od_neg h h14
      refine wq_aload_n rfl rfl rfl ?_
      obtain ⟨y15, e16, h⟩ := od_bindE h
      refine wd_virtZ (q := 0) (y := y15) (as := [36893488147419103232]) rfl rfl rfl (by decide) (Nat.le_of_ble_eq_true rfl) (Nat.le_of_ble_eq_true rfl) rfl (Nat.le_of_ble_eq_true rfl) rfl (dkT_217 T13 e16) (fun p17 T18 => ?_)
      refine wq_if_ne rfl rfl (wm_zlt p17) (fun h19 => ?_) (fun h19 => ?_)
      · replace h := od_neg h h19
        refine wq_aload_n rfl rfl rfl ?_
        refine wq_bipush rfl rfl ?_
        refine wq_iconst rfl rfl ?_
        refine wq_iconst rfl rfl ?_
        refine wq_iconst rfl rfl ?_
        obtain ⟨y20, e21, h⟩ := od_bindE h
        refine wd_virtI (q := 0) (y := y20) (as := [36893488147419103232, 14, 0, 0, 0]) rfl rfl rfl (by decide) (Nat.le_of_ble_eq_true rfl) (Nat.le_of_ble_eq_true rfl) rfl (Nat.le_of_ble_eq_true rfl) rfl (dkT_30 T18 (by decide) (wm_zlt (by decide)) (wm_zlt (by decide)) (wm_zlt (by decide)) e21) (fun p22 T23 => ?_)
        refine wq_istore rfl p22 (Nat.le_of_ble_eq_true rfl) (Or.inr ⟨_, rfl, (wq_notL p8)⟩) (L' := [36893488147419103232, u1, v2, v3, v4, y6.1, y20.1]) rfl ?_
        refine wq_aload_n rfl rfl rfl ?_
        refine wq_bipush rfl rfl ?_
        refine wq_iload rfl rfl p8 ?_
        refine wq_iload_n rfl rfl hv2 ?_
        refine wq_iload rfl rfl hv4 ?_
        refine wq_bipush rfl rfl ?_
        refine wq_imul rfl hv4 (by decide) ?_
        refine wq_iload_n rfl rfl hv3 ?_
        refine wq_iaddZ rfl (Nat.mod_lt _ (by decide)) hv3 (z := ((ev_oMul v4 100) + v3) % 4294967296) rfl ?_
        obtain ⟨y24, e25, h⟩ := od_letE h
        refine wq_top e25.symm ?_
        have p26 : y24 < 4294967296 := wd_lt e25 (Nat.mod_lt _ (by decide))
        obtain ⟨y27, e28, h⟩ := od_bindE h
        refine wd_virtN (q := 0) (y := y27) (as := [36893488147419103232, 35, y6.1, v2, y24]) rfl rfl rfl (by decide) (Nat.le_of_ble_eq_true rfl) (Nat.le_of_ble_eq_true rfl) rfl (Nat.le_of_ble_eq_true rfl) rfl (dkT_31 T23 (by decide) p8 hv2 p26 e28) (fun T30 => ?_)
        refine wq_aload_n rfl rfl rfl ?_
        refine wq_bipush rfl rfl ?_
        refine wq_iconst rfl rfl ?_
        refine wq_iconst rfl rfl ?_
        refine wq_iconst rfl rfl ?_
        obtain ⟨y31, e32, h⟩ := od_bindE h
        refine wd_virtN (q := 0) (y := y31) (as := [36893488147419103232, 14, 0, 0, 0]) rfl rfl rfl (by decide) (Nat.le_of_ble_eq_true rfl) (Nat.le_of_ble_eq_true rfl) rfl (Nat.le_of_ble_eq_true rfl) rfl (dkT_31 T30 (by decide) (wm_zlt (by decide)) (wm_zlt (by decide)) (wm_zlt (by decide)) e32) (fun T34 => ?_)
        refine wq_aload_n rfl rfl rfl ?_
        refine wq_iconst rfl rfl ?_
        refine wq_iconst rfl rfl ?_
        refine wq_iconst rfl rfl ?_
        refine wq_iconst rfl rfl ?_
        obtain ⟨y35, e36, h⟩ := od_bindE h
        refine wd_virtN (q := 0) (y := y35) (as := [36893488147419103232, 3, 0, 0, 0]) rfl rfl rfl (by decide) (Nat.le_of_ble_eq_true rfl) (Nat.le_of_ble_eq_true rfl) rfl (Nat.le_of_ble_eq_true rfl) rfl (dkT_31 T34 (by decide) (wm_zlt (by decide)) (wm_zlt (by decide)) (wm_zlt (by decide)) e36) (fun T38 => ?_)
        refine wq_iconst rfl rfl ?_
        exact wq_iret rfl (wm_zlt (by decide)) (Nat.blt_eq.mpr (by decide)) (wkOZ h T38 (by decide))
      · replace h := od_pos h h19
        refine wq_aload_n rfl rfl rfl ?_
        obtain ⟨y39, e40, h⟩ := od_bindE h
        refine wd_virtZ (q := 0) (y := y39) (as := [36893488147419103232]) rfl rfl rfl (by decide) (Nat.le_of_ble_eq_true rfl) (Nat.le_of_ble_eq_true rfl) rfl (Nat.le_of_ble_eq_true rfl) rfl (dkT_211 T18 e40) (fun p41 T42 => ?_)
        exact wq_iret rfl (wm_zlt p41) (Nat.blt_eq.mpr p41) (wkOZ h T42 p41)
    · replace h := od_pos h h14
      refine wq_iconst rfl rfl ?_
      exact wq_iret rfl (wm_zlt (by decide)) (Nat.blt_eq.mpr (by decide)) (wkOZ h T13 (by decide))
  · replace h := od_neg h h5
    refine wq_aload_n rfl rfl rfl ?_
    obtain ⟨y43, e44, h⟩ := od_bindE h
    refine wd_virtZ (q := 0) (y := y43) (as := [36893488147419103232]) rfl rfl rfl (by decide) (Nat.le_of_ble_eq_true rfl) (Nat.le_of_ble_eq_true rfl) rfl (Nat.le_of_ble_eq_true rfl) rfl (dkT_212 T4 e44) (fun p45 T46 => ?_)
    refine wq_if_ne rfl rfl (wm_zlt p45) (fun h47 => ?_) (fun h47 => ?_)
    · replace h := od_neg h h47
      refine wq_aload_n rfl rfl rfl ?_
      refine wm_getR (v := 36893488147419103241) rfl (by decide) (T46.r 21 8 rfl) ?_
      refine wq_aload_n rfl rfl rfl ?_
      refine wm_getI rfl (by decide) ?_
      obtain ⟨g48, h⟩ := od_gE h
      refine wq_iaload (q := 9) (n := 1502) rfl rfl (by decide) g48 (by decide) ?_
      refine wq_iconst rfl rfl ?_
      refine wq_ic_eq rfl rfl (T46.ai (k := 9) rfl g48) (wm_zlt (by decide)) (fun h49 => ?_) (fun h49 => ?_)
      · replace h := od_pos h h49
        refine wq_aload_n rfl rfl rfl ?_
        refine wq_aload_n rfl rfl rfl ?_
        obtain ⟨y50, e51, h⟩ := od_bindE h
        refine wd_virtI (q := 0) (y := y50) (as := [36893488147419103232]) rfl rfl rfl (by decide) (Nat.le_of_ble_eq_true rfl) (Nat.le_of_ble_eq_true rfl) rfl (Nat.le_of_ble_eq_true rfl) rfl (dkT_210 T46 e51) (fun p52 T53 => ?_)
        obtain ⟨y54, e55, h⟩ := od_bindE h
        refine wd_virtI (q := 0) (y := y54) (as := [36893488147419103232, y50.1]) rfl rfl rfl (by decide) (Nat.le_of_ble_eq_true rfl) (Nat.le_of_ble_eq_true rfl) rfl (Nat.le_of_ble_eq_true rfl) rfl (dkT_219 T53 p52 e55) (fun p56 T57 => ?_)
        refine wq_if_lt rfl rfl p56 (fun h58 => ?_) (fun h58 => ?_)
        · replace h := od_pos h h58
          refine wq_iconst rfl rfl ?_
          exact wq_iret rfl (wm_zlt (by decide)) (Nat.blt_eq.mpr (by decide)) (wkOZ h T57 (by decide))
        · replace h := od_neg h (Nat.not_le.mpr h58)
          refine wq_aload_n rfl rfl rfl ?_
          obtain ⟨y59, e60, h⟩ := od_bindE h
          refine wd_virtZ (q := 0) (y := y59) (as := [36893488147419103232]) rfl rfl rfl (by decide) (Nat.le_of_ble_eq_true rfl) (Nat.le_of_ble_eq_true rfl) rfl (Nat.le_of_ble_eq_true rfl) rfl (dkT_212 T57 e60) (fun p61 T62 => ?_)
          refine wq_if_ne rfl rfl (wm_zlt p61) (fun h63 => ?_) (fun h63 => ?_)
          · replace h := od_neg h h63
            obtain ⟨y64, e65, h⟩ := od_letE h
            have p66 : y64 < 4294967296 := wd_lt e65 (Nat.mod_lt _ (by decide))
            refine wq_iincZ rfl rfl hv4 (Or.inr ⟨_, rfl, (wq_notL hv3)⟩) rfl (z := y64) e65.symm (L' := [36893488147419103232, u1, v2, v3, y64, 73786976294838206464, 73786976294838206464]) rfl ?_
            refine wq_goto rfl rfl ?_
            exact hr85 T62 hv2 hv3 p66 hu1 h
          · replace h := od_pos h h63
            refine wq_iconst rfl rfl ?_
            exact wq_iret rfl (wm_zlt (by decide)) (Nat.blt_eq.mpr (by decide)) (wkOZ h T62 (by decide))
      · replace h := od_neg h h49
        refine wq_aload_n rfl rfl rfl ?_
        obtain ⟨y67, e68, h⟩ := od_bindE h
        refine wd_virtZ (q := 0) (y := y67) (as := [36893488147419103232]) rfl rfl rfl (by decide) (Nat.le_of_ble_eq_true rfl) (Nat.le_of_ble_eq_true rfl) rfl (Nat.le_of_ble_eq_true rfl) rfl (dkT_211 T46 e68) (fun p69 T70 => ?_)
        exact wq_iret rfl (wm_zlt p69) (Nat.blt_eq.mpr p69) (wkOZ h T70 p69)
    · replace h := od_pos h h47
      refine wq_iconst rfl rfl ?_
      exact wq_iret rfl (wm_zlt (by decide)) (Nat.blt_eq.mpr (by decide)) (wkOZ h T46 (by decide))
def dk_233_85 (n : Nat) : Nat → wq_F → Nat → Nat → Nat → Option (Nat × wq_F)
  | 0 => fun _ _ _ _ => none
  | g + 1 => dk_233_85b n (dk_233_85 n g)
theorem dk_233_85T {d n : Nat} : ∀ g : Nat, ∀ ⦃u1 : Nat⦄ ⦃F : wq_F⦄ (hT : wm_T F) ⦃v2 : Nat⦄ (hv2 : v2 < 4294967296) ⦃v3 : Nat⦄ (hv3 : v3 < 4294967296) ⦃v4 : Nat⦄ (hv4 : v4 < 4294967296) (hu1 : ev_isL u1 = false) ⦃x : Nat × wq_F⦄ (h : dk_233_85 n g F v2 v3 v4 = some x), wq (wq_cf (d + 3)) (ev_un al_mX12_readFor.2.2.2.2) (some .boolean) 85 [36893488147419103232, u1, v2, v3, v4, 73786976294838206464, 73786976294838206464] [] wm_sh F 0 0 (wkZ wm_T wm_sh x)
  | 0 => by
    intro u1 F hT v2 hv2 v3 hv3 v4 hv4 hu1 x h
    cases h
  | g + 1 => dk_233_85bT (dk_233_85T g)
/-- X12_readFor -/
def dk_233 (n : Nat) (F : wq_F) (a0 : Nat) : Option (Nat × wq_F) :=
  od_g (F 0 25 < 1502) <|
  if (F 9 (F 0 25)) = 1 then
    (dk_210 F).bind fun y3 =>
    (dk_219 y3.2 y3.1).bind fun y7 =>
    if 2147483648 ≤ y7.1 then
      some (0, y7.2)
    else
      (dk_212 y7.2).bind fun y12 =>
      if y12.1 = 0 then
        some (0, y12.2)
      else
        (dk_36 y12.2 61).bind fun y17 =>
        if y17.1 = 0 then
          dk_233_85 n n y17.2 (F 0 25) y7.1 1
        else
          (dk_212 y17.2).bind fun y22 =>
          if y22.1 = 0 then
            some (0, y22.2)
          else
            (dk_31 y22.2 31 a0 (F 0 25) y7.1).bind fun y27 =>
            (dk_31 y27.2 3 0 0 0).bind fun y31 =>
            some (1, y31.2)
  else
    (dk_211 F).bind fun y35 =>
    some (y35.1, y35.2)
theorem dkT_233 {d n : Nat} {F : wq_F} (hT : wm_T F) {a0 : Nat} (ha0 : a0 < 4294967296) {x : Nat × wq_F} (h : dk_233 n F a0 = some x) : mq (d + 3 + 1) 233 [36893488147419103232, a0] wm_sh F (wkZ wm_T wm_sh x) := by
  have e : ev_ent [36893488147419103232, a0] = [36893488147419103232, a0] := by
    show 36893488147419103232 :: ev_ent [a0] = _
    rw [wm_entI ha0]
    rfl
  refine mq_of (maxL := 7) (rt := (some .boolean)) (code := (ev_un al_mX12_readFor.2.2.2.2)) (L := [36893488147419103232, a0, 73786976294838206464, 73786976294838206464, 73786976294838206464, 73786976294838206464, 73786976294838206464]) rfl (by rw [e]; exact Nat.le_of_ble_eq_true rfl) (by rw [e]; rfl) ?_
  unfold dk_233 at h
  refine wq_aload_n rfl rfl rfl ?_
  refine wm_getR (v := 36893488147419103241) rfl (by decide) (hT.r 21 8 rfl) ?_
  refine wq_aload_n rfl rfl rfl ?_
  refine wm_getI rfl (by decide) ?_
  obtain ⟨g1, h⟩ := od_gE h
  refine wq_iaload (q := 9) (n := 1502) rfl rfl (by decide) g1 (by decide) ?_
  refine wq_iconst rfl rfl ?_
  refine wq_ic_eq rfl rfl (hT.ai (k := 9) rfl g1) (wm_zlt (by decide)) (fun h2 => ?_) (fun h2 => ?_)
  · replace h := od_pos h h2
    refine wq_aload_n rfl rfl rfl ?_
    refine wm_getI rfl (by decide) ?_
    refine wq_istore_n rfl (hT.i 25 rfl) (Nat.le_of_ble_eq_true rfl) (Or.inr ⟨_, rfl, (wq_notL ha0)⟩) (L' := [36893488147419103232, a0, F 0 25, 73786976294838206464, 73786976294838206464, 73786976294838206464, 73786976294838206464]) rfl ?_
    refine wq_aload_n rfl rfl rfl ?_
    refine wq_aload_n rfl rfl rfl ?_
    obtain ⟨y3, e4, h⟩ := od_bindE h
    refine wd_virtI (q := 0) (y := y3) (as := [36893488147419103232]) rfl rfl rfl (by decide) (Nat.le_of_ble_eq_true rfl) (Nat.le_of_ble_eq_true rfl) rfl (Nat.le_of_ble_eq_true rfl) rfl (dkT_210 hT e4) (fun p5 T6 => ?_)
    obtain ⟨y7, e8, h⟩ := od_bindE h
    refine wd_virtI (q := 0) (y := y7) (as := [36893488147419103232, y3.1]) rfl rfl rfl (by decide) (Nat.le_of_ble_eq_true rfl) (Nat.le_of_ble_eq_true rfl) rfl (Nat.le_of_ble_eq_true rfl) rfl (dkT_219 T6 p5 e8) (fun p9 T10 => ?_)
    refine wq_istore_n rfl p9 (Nat.le_of_ble_eq_true rfl) (Or.inr ⟨_, rfl, (wq_notL (hT.i 25 rfl))⟩) (L' := [36893488147419103232, a0, F 0 25, y7.1, 73786976294838206464, 73786976294838206464, 73786976294838206464]) rfl ?_
    refine wq_iload_n rfl rfl p9 ?_
    refine wq_if_lt rfl rfl p9 (fun h11 => ?_) (fun h11 => ?_)
    · replace h := od_pos h h11
      refine wq_iconst rfl rfl ?_
      exact wq_iret rfl (wm_zlt (by decide)) (Nat.blt_eq.mpr (by decide)) (wkOZ h T10 (by decide))
    · replace h := od_neg h (Nat.not_le.mpr h11)
      refine wq_aload_n rfl rfl rfl ?_
      obtain ⟨y12, e13, h⟩ := od_bindE h
      refine wd_virtZ (q := 0) (y := y12) (as := [36893488147419103232]) rfl rfl rfl (by decide) (Nat.le_of_ble_eq_true rfl) (Nat.le_of_ble_eq_true rfl) rfl (Nat.le_of_ble_eq_true rfl) rfl (dkT_212 T10 e13) (fun p14 T15 => ?_)
      refine wq_if_ne rfl rfl (wm_zlt p14) (fun h16 => ?_) (fun h16 => ?_)
      · replace h := od_neg h h16
        refine wq_aload_n rfl rfl rfl ?_
        refine wq_bipush rfl rfl ?_
        obtain ⟨y17, e18, h⟩ := od_bindE h
        refine wd_virtZ (q := 0) (y := y17) (as := [36893488147419103232, 61]) rfl rfl rfl (by decide) (Nat.le_of_ble_eq_true rfl) (Nat.le_of_ble_eq_true rfl) rfl (Nat.le_of_ble_eq_true rfl) rfl (dkT_36 T15 (by decide) e18) (fun p19 T20 => ?_)
        refine wq_if_eq rfl rfl (wm_zlt p19) (fun h21 => ?_) (fun h21 => ?_)
        · replace h := od_pos h h21
          refine wq_iconst rfl rfl ?_
          refine wq_istore rfl (wm_zlt (by decide)) (Nat.le_of_ble_eq_true rfl) (Or.inr ⟨_, rfl, (wq_notL p9)⟩) (L' := [36893488147419103232, a0, F 0 25, y7.1, 1, 73786976294838206464, 73786976294838206464]) rfl ?_
          exact dk_233_85T n T20 (hT.i 25 rfl) p9 (wm_zlt (by decide)) (wq_notL ha0) h
        · replace h := od_neg h h21
          refine wq_aload_n rfl rfl rfl ?_
          obtain ⟨y22, e23, h⟩ := od_bindE h
          refine wd_virtZ (q := 0) (y := y22) (as := [36893488147419103232]) rfl rfl rfl (by decide) (Nat.le_of_ble_eq_true rfl) (Nat.le_of_ble_eq_true rfl) rfl (Nat.le_of_ble_eq_true rfl) rfl (dkT_212 T20 e23) (fun p24 T25 => ?_)
          refine wq_if_ne rfl rfl (wm_zlt p24) (fun h26 => ?_) (fun h26 => ?_)
          · replace h := od_neg h h26
            refine wq_aload_n rfl rfl rfl ?_
            refine wq_bipush rfl rfl ?_
            refine wq_iload_n rfl rfl ha0 ?_
            refine wq_iload_n rfl rfl (hT.i 25 rfl) ?_
            refine wq_iload_n rfl rfl p9 ?_
            obtain ⟨y27, e28, h⟩ := od_bindE h
            refine wd_virtN (q := 0) (y := y27) (as := [36893488147419103232, 31, a0, F 0 25, y7.1]) rfl rfl rfl (by decide) (Nat.le_of_ble_eq_true rfl) (Nat.le_of_ble_eq_true rfl) rfl (Nat.le_of_ble_eq_true rfl) rfl (dkT_31 T25 (by decide) ha0 (hT.i 25 rfl) p9 e28) (fun T30 => ?_)
            refine wq_aload_n rfl rfl rfl ?_
            refine wq_iconst rfl rfl ?_
            refine wq_iconst rfl rfl ?_
            refine wq_iconst rfl rfl ?_
            refine wq_iconst rfl rfl ?_
            obtain ⟨y31, e32, h⟩ := od_bindE h
            refine wd_virtN (q := 0) (y := y31) (as := [36893488147419103232, 3, 0, 0, 0]) rfl rfl rfl (by decide) (Nat.le_of_ble_eq_true rfl) (Nat.le_of_ble_eq_true rfl) rfl (Nat.le_of_ble_eq_true rfl) rfl (dkT_31 T30 (by decide) (wm_zlt (by decide)) (wm_zlt (by decide)) (wm_zlt (by decide)) e32) (fun T34 => ?_)
            refine wq_iconst rfl rfl ?_
            exact wq_iret rfl (wm_zlt (by decide)) (Nat.blt_eq.mpr (by decide)) (wkOZ h T34 (by decide))
          · replace h := od_pos h h26
            refine wq_iconst rfl rfl ?_
            exact wq_iret rfl (wm_zlt (by decide)) (Nat.blt_eq.mpr (by decide)) (wkOZ h T25 (by decide))
      · replace h := od_pos h h16
        refine wq_iconst rfl rfl ?_
        exact wq_iret rfl (wm_zlt (by decide)) (Nat.blt_eq.mpr (by decide)) (wkOZ h T15 (by decide))
  · replace h := od_neg h h2
    refine wq_aload_n rfl rfl rfl ?_
    obtain ⟨y35, e36, h⟩ := od_bindE h
    refine wd_virtZ (q := 0) (y := y35) (as := [36893488147419103232]) rfl rfl rfl (by decide) (Nat.le_of_ble_eq_true rfl) (Nat.le_of_ble_eq_true rfl) rfl (Nat.le_of_ble_eq_true rfl) rfl (dkT_211 hT e36) (fun p37 T38 => ?_)
    exact wq_iret rfl (wm_zlt p37) (Nat.blt_eq.mpr p37) (wkOZ h T38 p37)
def dk_221_11b (n : Nat) (r11 : wq_F → Nat → Nat → Nat → Nat → Nat → Option (Nat × wq_F)) (F : wq_F) (v2 : Nat) (v3 : Nat) (v4 : Nat) (v5 : Nat) (v6 : Nat) : Option (Nat × wq_F) :=
  od_g (v5 < 51) <|
  if ev_s v6 < ev_s (F 15 v5) then
    od_let (((ev_oMul 30 v5) + v6) % 4294967296) fun y37 =>
    od_g (y37 < 1530) <|
    if (F 18 y37) = v2 then
      od_let (((ev_oMul 30 v5) + v6) % 4294967296) fun y45 =>
      od_g (y45 < 1530) <|
      if (F 19 y45) = v3 then
        some (v6, F)
      else
        od_let ((v6 + 1) % 4294967296) fun y50 =>
        r11 F v2 v3 v4 v5 y50
    else
      od_let ((v6 + 1) % 4294967296) fun y42 =>
      r11 F v2 v3 v4 v5 y42
  else
    od_g (v5 < 51) <|
    if (F 15 v5) = 30 then
      (dk_209 F 3 v4).bind fun y33 =>
      some (0, y33.2)
    else
      od_g (v5 < 51) <|
      od_let (((ev_oMul 30 v5) + (F 15 v5)) % 4294967296) fun y6 =>
      od_g (y6 < 1530) <|
      od_up F 18 y6 v2 fun F10 =>
      od_g (v5 < 51) <|
      od_let (((ev_oMul 30 v5) + (F10 15 v5)) % 4294967296) fun y14 =>
      od_g (y14 < 1530) <|
      od_up F10 19 y14 v3 fun F18 =>
      od_g (v5 < 51) <|
      od_let (((F18 15 v5) + 1) % 4294967296) fun y22 =>
      od_g (v5 < 51) <|
      od_up F18 15 v5 y22 fun F26 =>
      od_g (v5 < 51) <|
      od_let (((F26 15 v5) + (4294967296 - 1)) % 4294967296) fun y30 =>
      some (y30, F26)
theorem dk_221_11bT {d n : Nat} {r11 : wq_F → Nat → Nat → Nat → Nat → Nat → Option (Nat × wq_F)} (hr11 : ∀ ⦃u1 : Nat⦄ ⦃F : wq_F⦄ (hT : wm_T F) ⦃v2 : Nat⦄ (hv2 : v2 < 2) ⦃v3 : Nat⦄ (hv3 : v3 < 4294967296) ⦃v4 : Nat⦄ (hv4 : v4 < 4294967296) ⦃v5 : Nat⦄ (hv5 : v5 < 4294967296) ⦃v6 : Nat⦄ (hv6 : v6 < 4294967296) (hu1 : ev_isL u1 = false) ⦃x : Nat × wq_F⦄ (h : r11 F v2 v3 v4 v5 v6 = some x), wq (wq_cf (d + 1)) (ev_un al_mX12_captured.2.2.2.2) (some .int) 11 [36893488147419103232, u1, v2, v3, v4, v5, v6] [] wm_sh F 0 0 (wkI wm_T wm_sh x)) : ∀ ⦃u1 : Nat⦄ ⦃F : wq_F⦄ (hT : wm_T F) ⦃v2 : Nat⦄ (hv2 : v2 < 2) ⦃v3 : Nat⦄ (hv3 : v3 < 4294967296) ⦃v4 : Nat⦄ (hv4 : v4 < 4294967296) ⦃v5 : Nat⦄ (hv5 : v5 < 4294967296) ⦃v6 : Nat⦄ (hv6 : v6 < 4294967296) (hu1 : ev_isL u1 = false) ⦃x : Nat × wq_F⦄ (h : dk_221_11b n r11 F v2 v3 v4 v5 v6 = some x), wq (wq_cf (d + 1)) (ev_un al_mX12_captured.2.2.2.2) (some .int) 11 [36893488147419103232, u1, v2, v3, v4, v5, v6] [] wm_sh F 0 0 (wkI wm_T wm_sh x) := by
  intro u1 F hT v2 hv2 v3 hv3 v4 hv4 v5 hv5 v6 hv6 hu1 x h
  unfold dk_221_11b at h
  refine wq_iload rfl rfl hv6 ?_
  refine wq_aload_n rfl rfl rfl ?_
  refine wm_getR (v := 36893488147419103247) rfl (by decide) (hT.r 29 14 rfl) ?_
  refine wq_iload rfl rfl hv5 ?_
  obtain ⟨g1, h⟩ := od_gE h
  refine wq_iaload (q := 15) (n := 51) rfl rfl (by decide) g1 (by decide) ?_
  refine wq_ic_ge rfl rfl hv6 (hT.ai (k := 15) rfl g1) (fun h2 => ?_) (fun h2 => ?_)
  · replace h := od_neg h (Nat.not_lt.mpr h2)
    refine wq_aload_n rfl rfl rfl ?_
    refine wm_getR (v := 36893488147419103247) rfl (by decide) (hT.r 29 14 rfl) ?_
    refine wq_iload rfl rfl hv5 ?_
    obtain ⟨g3, h⟩ := od_gE h
    refine wq_iaload (q := 15) (n := 51) rfl rfl (by decide) g3 (by decide) ?_
    refine wq_bipush rfl rfl ?_
    refine wq_ic_ne rfl rfl (hT.ai (k := 15) rfl g3) (by decide) (fun h4 => ?_) (fun h4 => ?_)
    · replace h := od_neg h h4
      refine wq_aload_n rfl rfl rfl ?_
      refine wm_getR (v := 36893488147419103250) rfl (by decide) (hT.r 32 17 rfl) ?_
      refine wq_bipush rfl rfl ?_
      refine wq_iload rfl rfl hv5 ?_
      refine wq_imul rfl (by decide) hv5 ?_
      refine wq_aload_n rfl rfl rfl ?_
      refine wm_getR (v := 36893488147419103247) rfl (by decide) (hT.r 29 14 rfl) ?_
      refine wq_iload rfl rfl hv5 ?_
      obtain ⟨g5, h⟩ := od_gE h
      refine wq_iaload (q := 15) (n := 51) rfl rfl (by decide) g5 (by decide) ?_
      refine wq_iaddZ rfl (Nat.mod_lt _ (by decide)) (hT.ai (k := 15) rfl g5) (z := ((ev_oMul 30 v5) + (F 15 v5)) % 4294967296) rfl ?_
      obtain ⟨y6, e7, h⟩ := od_letE h
      refine wq_top e7.symm ?_
      have p8 : y6 < 4294967296 := wd_lt e7 (Nat.mod_lt _ (by decide))
      refine wq_iload_n rfl rfl (wm_zlt hv2) ?_
      obtain ⟨g9, h⟩ := od_gE h
      obtain ⟨F10, e11, h⟩ := od_upE h
      refine wd_zastore (q := 18) (n := 1530) rfl rfl (by decide) g9 (by decide) hv2 e11 ?_
      have T12 : wm_T F10 := wd_T e11 (hT.ua (k := 18) (kd := 1002) (n := 1530) (i := y6) (v := v2) rfl (by decide) g9 (show v2 < 2 from hv2))
      refine wq_aload_n rfl rfl rfl ?_
      refine wm_getR (v := 36893488147419103251) rfl (by decide) (T12.r 33 18 rfl) ?_
      refine wq_bipush rfl rfl ?_
      refine wq_iload rfl rfl hv5 ?_
      refine wq_imul rfl (by decide) hv5 ?_
      refine wq_aload_n rfl rfl rfl ?_
      refine wm_getR (v := 36893488147419103247) rfl (by decide) (T12.r 29 14 rfl) ?_
      refine wq_iload rfl rfl hv5 ?_
      obtain ⟨g13, h⟩ := od_gE h
      refine wq_iaload (q := 15) (n := 51) rfl rfl (by decide) g13 (by decide) ?_
      refine wq_iaddZ rfl (Nat.mod_lt _ (by decide)) (T12.ai (k := 15) rfl g13) (z := ((ev_oMul 30 v5) + (F10 15 v5)) % 4294967296) rfl ?_
      obtain ⟨y14, e15, h⟩ := od_letE h
      refine wq_top e15.symm ?_
      have p16 : y14 < 4294967296 := wd_lt e15 (Nat.mod_lt _ (by decide))
      refine wq_iload_n rfl rfl hv3 ?_
      obtain ⟨g17, h⟩ := od_gE h
      obtain ⟨F18, e19, h⟩ := od_upE h
      refine wd_iastore (q := 19) (n := 1530) rfl rfl (by decide) g17 (by decide) hv3 e19 ?_
      have T20 : wm_T F18 := wd_T e19 (T12.ua (k := 19) (kd := 1000) (n := 1530) (i := y14) (v := v3) rfl (by decide) g17 (show v3 < 4294967296 from hv3))
      refine wq_aload_n rfl rfl rfl ?_
      refine wm_getR (v := 36893488147419103247) rfl (by decide) (T20.r 29 14 rfl) ?_
      refine wq_iload rfl rfl hv5 ?_
      refine wq_dup2 rfl (wq_notL hv5) rfl ?_
      obtain ⟨g21, h⟩ := od_gE h
      refine wq_iaload (q := 15) (n := 51) rfl rfl (by decide) g21 (by decide) ?_
      refine wq_iconst rfl rfl ?_
      refine wq_iaddZ rfl (T20.ai (k := 15) rfl g21) (wm_zlt (by decide)) (z := ((F18 15 v5) + 1) % 4294967296) rfl ?_
      obtain ⟨y22, e23, h⟩ := od_letE h
      refine wq_top e23.symm ?_
      have p24 : y22 < 4294967296 := wd_lt e23 (Nat.mod_lt _ (by decide))
      obtain ⟨g25, h⟩ := od_gE h
      obtain ⟨F26, e27, h⟩ := od_upE h
      refine wd_iastore (q := 15) (n := 51) rfl rfl (by decide) g25 (by decide) p24 e27 ?_
      have T28 : wm_T F26 := wd_T e27 (T20.ua (k := 15) (kd := 1000) (n := 51) (i := v5) (v := y22) rfl (by decide) g25 (show y22 < 4294967296 from p24))
      refine wq_aload_n rfl rfl rfl ?_
      refine wm_getR (v := 36893488147419103247) rfl (by decide) (T28.r 29 14 rfl) ?_
      refine wq_iload rfl rfl hv5 ?_
      obtain ⟨g29, h⟩ := od_gE h
      refine wq_iaload (q := 15) (n := 51) rfl rfl (by decide) g29 (by decide) ?_
      refine wq_iconst rfl rfl ?_
      refine wq_isubZ rfl (T28.ai (k := 15) rfl g29) (wm_zlt (by decide)) (z := ((F26 15 v5) + (4294967296 - 1)) % 4294967296) rfl ?_
      obtain ⟨y30, e31, h⟩ := od_letE h
      refine wq_top e31.symm ?_
      have p32 : y30 < 4294967296 := wd_lt e31 (Nat.mod_lt _ (by decide))
      exact wq_iret rfl p32 rfl (wkOI h T28 p32)
    · replace h := od_pos h h4
      refine wq_aload_n rfl rfl rfl ?_
      refine wq_iconst rfl rfl ?_
      refine wq_iload rfl rfl hv4 ?_
      obtain ⟨y33, e34, h⟩ := od_bindE h
      refine wd_virtZ (q := 0) (y := y33) (as := [36893488147419103232, 3, v4]) rfl rfl rfl (by decide) (Nat.le_of_ble_eq_true rfl) (Nat.le_of_ble_eq_true rfl) rfl (Nat.le_of_ble_eq_true rfl) rfl (dkT_209 hT (by decide) hv4 e34) (fun p35 T36 => ?_)
      refine wq_pop rfl (wq_notL (wm_zlt p35)) ?_
      refine wq_iconst rfl rfl ?_
      exact wq_iret rfl (wm_zlt (by decide)) rfl (wkOI h T36 (wm_zlt (by decide)))
  · replace h := od_pos h h2
    refine wq_aload_n rfl rfl rfl ?_
    refine wm_getR (v := 36893488147419103250) rfl (by decide) (hT.r 32 17 rfl) ?_
    refine wq_bipush rfl rfl ?_
    refine wq_iload rfl rfl hv5 ?_
    refine wq_imul rfl (by decide) hv5 ?_
    refine wq_iload rfl rfl hv6 ?_
    refine wq_iaddZ rfl (Nat.mod_lt _ (by decide)) hv6 (z := ((ev_oMul 30 v5) + v6) % 4294967296) rfl ?_
    obtain ⟨y37, e38, h⟩ := od_letE h
    refine wq_top e38.symm ?_
    have p39 : y37 < 4294967296 := wd_lt e38 (Nat.mod_lt _ (by decide))
    obtain ⟨g40, h⟩ := od_gE h
    refine wq_zaload (q := 18) (n := 1530) rfl rfl (by decide) g40 (by decide) ?_
    refine wq_iload_n rfl rfl (wm_zlt hv2) ?_
    refine wq_ic_ne rfl rfl (wm_zlt (hT.az (k := 18) rfl g40)) (wm_zlt hv2) (fun h41 => ?_) (fun h41 => ?_)
    · replace h := od_neg h h41
      obtain ⟨y42, e43, h⟩ := od_letE h
      have p44 : y42 < 4294967296 := wd_lt e43 (Nat.mod_lt _ (by decide))
      refine wq_iincZ rfl rfl hv6 (Or.inr ⟨_, rfl, (wq_notL hv5)⟩) rfl (z := y42) e43.symm (L' := [36893488147419103232, u1, v2, v3, v4, v5, y42]) rfl ?_
      refine wq_goto rfl rfl ?_
      exact hr11 hT hv2 hv3 hv4 hv5 p44 hu1 h
    · replace h := od_pos h h41
      refine wq_aload_n rfl rfl rfl ?_
      refine wm_getR (v := 36893488147419103251) rfl (by decide) (hT.r 33 18 rfl) ?_
      refine wq_bipush rfl rfl ?_
      refine wq_iload rfl rfl hv5 ?_
      refine wq_imul rfl (by decide) hv5 ?_
      refine wq_iload rfl rfl hv6 ?_
      refine wq_iaddZ rfl (Nat.mod_lt _ (by decide)) hv6 (z := ((ev_oMul 30 v5) + v6) % 4294967296) rfl ?_
      obtain ⟨y45, e46, h⟩ := od_letE h
      refine wq_top e46.symm ?_
      have p47 : y45 < 4294967296 := wd_lt e46 (Nat.mod_lt _ (by decide))
      obtain ⟨g48, h⟩ := od_gE h
      refine wq_iaload (q := 19) (n := 1530) rfl rfl (by decide) g48 (by decide) ?_
      refine wq_iload_n rfl rfl hv3 ?_
      refine wq_ic_ne rfl rfl (hT.ai (k := 19) rfl g48) hv3 (fun h49 => ?_) (fun h49 => ?_)
      · replace h := od_neg h h49
        obtain ⟨y50, e51, h⟩ := od_letE h
        have p52 : y50 < 4294967296 := wd_lt e51 (Nat.mod_lt _ (by decide))
        refine wq_iincZ rfl rfl hv6 (Or.inr ⟨_, rfl, (wq_notL hv5)⟩) rfl (z := y50) e51.symm (L' := [36893488147419103232, u1, v2, v3, v4, v5, y50]) rfl ?_
        refine wq_goto rfl rfl ?_
        exact hr11 hT hv2 hv3 hv4 hv5 p52 hu1 h
      · replace h := od_pos h h49
        refine wq_iload rfl rfl hv6 ?_
        exact wq_iret rfl hv6 rfl (wkOI h hT hv6)
def dk_221_11 (n : Nat) : Nat → wq_F → Nat → Nat → Nat → Nat → Nat → Option (Nat × wq_F)
  | 0 => fun _ _ _ _ _ _ => none
  | g + 1 => dk_221_11b n (dk_221_11 n g)
theorem dk_221_11T {d n : Nat} : ∀ g : Nat, ∀ ⦃u1 : Nat⦄ ⦃F : wq_F⦄ (hT : wm_T F) ⦃v2 : Nat⦄ (hv2 : v2 < 2) ⦃v3 : Nat⦄ (hv3 : v3 < 4294967296) ⦃v4 : Nat⦄ (hv4 : v4 < 4294967296) ⦃v5 : Nat⦄ (hv5 : v5 < 4294967296) ⦃v6 : Nat⦄ (hv6 : v6 < 4294967296) (hu1 : ev_isL u1 = false) ⦃x : Nat × wq_F⦄ (h : dk_221_11 n g F v2 v3 v4 v5 v6 = some x), wq (wq_cf (d + 1)) (ev_un al_mX12_captured.2.2.2.2) (some .int) 11 [36893488147419103232, u1, v2, v3, v4, v5, v6] [] wm_sh F 0 0 (wkI wm_T wm_sh x)
  | 0 => by
    intro u1 F hT v2 hv2 v3 hv3 v4 hv4 v5 hv5 v6 hv6 hu1 x h
    cases h
  | g + 1 => dk_221_11bT (dk_221_11T g)
/-- X12_captured -/
def dk_221 (n : Nat) (F : wq_F) (a0 : Nat) (a1 : Nat) (a2 : Nat) (a3 : Nat) : Option (Nat × wq_F) :=
  od_g (a0 < 52) <|
  dk_221_11 n n F a1 a2 a3 (F 32 a0) 0
theorem dkT_221 {d n : Nat} {F : wq_F} (hT : wm_T F) {a0 : Nat} (ha0 : a0 < 4294967296) {a1 : Nat} (ha1 : a1 < 2) {a2 : Nat} (ha2 : a2 < 4294967296) {a3 : Nat} (ha3 : a3 < 4294967296) {x : Nat × wq_F} (h : dk_221 n F a0 a1 a2 a3 = some x) : mq (d + 1 + 1) 221 [36893488147419103232, a0, a1, a2, a3] wm_sh F (wkI wm_T wm_sh x) := by
  have e : ev_ent [36893488147419103232, a0, a1, a2, a3] = [36893488147419103232, a0, a1, a2, a3] := by
    show 36893488147419103232 :: ev_ent [a0, a1, a2, a3] = _
    rw [wm_entI ha0, wm_entI (wm_zlt ha1), wm_entI ha2, wm_entI ha3]
    rfl
  refine mq_of (maxL := 7) (rt := (some .int)) (code := (ev_un al_mX12_captured.2.2.2.2)) (L := [36893488147419103232, a0, a1, a2, a3, 73786976294838206464, 73786976294838206464]) rfl (by rw [e]; exact Nat.le_of_ble_eq_true rfl) (by rw [e]; rfl) ?_
  unfold dk_221 at h
  refine wq_aload_n rfl rfl rfl ?_
  refine wm_getR (v := 36893488147419103264) rfl (by decide) (hT.r 52 31 rfl) ?_
  refine wq_iload_n rfl rfl ha0 ?_
  obtain ⟨g1, h⟩ := od_gE h
  refine wq_iaload (q := 32) (n := 52) rfl rfl (by decide) g1 (by decide) ?_
  refine wq_istore rfl (hT.ai (k := 32) rfl g1) (Nat.le_of_ble_eq_true rfl) (Or.inr ⟨_, rfl, (wq_notL ha3)⟩) (L' := [36893488147419103232, a0, a1, a2, a3, F 32 a0, 73786976294838206464]) rfl ?_
  refine wq_iconst rfl rfl ?_
  refine wq_istore rfl (wm_zlt (by decide)) (Nat.le_of_ble_eq_true rfl) (Or.inr ⟨_, rfl, (wq_notL (hT.ai (k := 32) rfl g1))⟩) (L' := [36893488147419103232, a0, a1, a2, a3, F 32 a0, 0]) rfl ?_
  exact dk_221_11T n hT ha1 ha2 ha3 (hT.ai (k := 32) rfl g1) (wm_zlt (by decide)) (wq_notL ha0) h
def dk_222_88b (n : Nat) (r88 : wq_F → Nat → Nat → Nat → Nat → Nat → Option (Nat × wq_F)) (F : wq_F) (v2 : Nat) (v3 : Nat) (v6 : Nat) (v7 : Nat) (v8 : Nat) : Option (Nat × wq_F) :=
  if ev_s (F 0 53) < ev_s v8 then
    if v3 = (F 0 53) then
      od_up F 0 61 0 fun F9 =>
      od_up F9 0 62 v6 fun F12 =>
      some (0, F12)
    else
      od_up F 0 61 1 fun F3 =>
      od_up F3 0 62 v6 fun F6 =>
      some (0, F6)
  else
    (dk_221 n F v8 v7 v6 v2).bind fun y15 =>
    od_let ((v8 + 1) % 4294967296) fun y19 =>
    r88 y15.2 v2 v3 y15.1 0 y19
theorem dk_222_88bT {d n : Nat} {r88 : wq_F → Nat → Nat → Nat → Nat → Nat → Option (Nat × wq_F)} (hr88 : ∀ ⦃u1 : Nat⦄ ⦃u4 : Nat⦄ ⦃u5 : Nat⦄ ⦃F : wq_F⦄ (hT : wm_T F) ⦃v2 : Nat⦄ (hv2 : v2 < 4294967296) ⦃v3 : Nat⦄ (hv3 : v3 < 4294967296) ⦃v6 : Nat⦄ (hv6 : v6 < 4294967296) ⦃v7 : Nat⦄ (hv7 : v7 < 2) ⦃v8 : Nat⦄ (hv8 : v8 < 4294967296) (hu1 : ev_isL u1 = false) (hu4 : ev_isL u4 = false) (hu5 : ev_isL u5 = false) ⦃x : Nat × wq_F⦄ (h : r88 F v2 v3 v6 v7 v8 = some x), wq (wq_cf (d + 2)) (ev_un al_mX12_resolve.2.2.2.2) none 88 [36893488147419103232, u1, v2, v3, u4, u5, v6, v7, v8] [] wm_sh F 0 0 (wkN wm_T wm_sh x)) : ∀ ⦃u1 : Nat⦄ ⦃u4 : Nat⦄ ⦃u5 : Nat⦄ ⦃F : wq_F⦄ (hT : wm_T F) ⦃v2 : Nat⦄ (hv2 : v2 < 4294967296) ⦃v3 : Nat⦄ (hv3 : v3 < 4294967296) ⦃v6 : Nat⦄ (hv6 : v6 < 4294967296) ⦃v7 : Nat⦄ (hv7 : v7 < 2) ⦃v8 : Nat⦄ (hv8 : v8 < 4294967296) (hu1 : ev_isL u1 = false) (hu4 : ev_isL u4 = false) (hu5 : ev_isL u5 = false) ⦃x : Nat × wq_F⦄ (h : dk_222_88b n r88 F v2 v3 v6 v7 v8 = some x), wq (wq_cf (d + 2)) (ev_un al_mX12_resolve.2.2.2.2) none 88 [36893488147419103232, u1, v2, v3, u4, u5, v6, v7, v8] [] wm_sh F 0 0 (wkN wm_T wm_sh x) := by
  intro u1 u4 u5 F hT v2 hv2 v3 hv3 v6 hv6 v7 hv7 v8 hv8 hu1 hu4 hu5 x h
  unfold dk_222_88b at h
  refine wq_iload rfl rfl hv8 ?_
  refine wq_aload_n rfl rfl rfl ?_
  refine wm_getI rfl (by decide) ?_
  refine wq_ic_gt rfl rfl hv8 (hT.i 53 rfl) (fun h1 => ?_) (fun h1 => ?_)
  · replace h := od_pos h h1
    refine wq_aload_n rfl rfl rfl ?_
    refine wq_iload_n rfl rfl hv3 ?_
    refine wq_aload_n rfl rfl rfl ?_
    refine wm_getI rfl (by decide) ?_
    refine wq_ic_ne rfl rfl hv3 (hT.i 53 rfl) (fun h2 => ?_) (fun h2 => ?_)
    · replace h := od_neg h h2
      refine wq_iconst rfl rfl ?_
      obtain ⟨F3, e4, h⟩ := od_upE h
      refine wmE_put rfl (by decide) (wq_I (wm_zlt (by decide))) e4 ?_
      have T5 : wm_T F3 := wd_T e4 (hT.uf (f := 61) (c := 0) (v := 1) rfl (show 1 < 4294967296 from (wm_zlt (by decide))))
      refine wq_aload_n rfl rfl rfl ?_
      refine wq_iload rfl rfl hv6 ?_
      obtain ⟨F6, e7, h⟩ := od_upE h
      refine wmE_put rfl (by decide) (wq_I hv6) e7 ?_
      have T8 : wm_T F6 := wd_T e7 (T5.uf (f := 62) (c := 0) (v := v6) rfl (show v6 < 4294967296 from hv6))
      exact wq_ret rfl (wkON h T8)
    · replace h := od_pos h h2
      refine wq_iconst rfl rfl ?_
      refine wq_goto rfl rfl ?_
      obtain ⟨F9, e10, h⟩ := od_upE h
      refine wmE_put rfl (by decide) (wq_I (wm_zlt (by decide))) e10 ?_
      have T11 : wm_T F9 := wd_T e10 (hT.uf (f := 61) (c := 0) (v := 0) rfl (show 0 < 4294967296 from (wm_zlt (by decide))))
      refine wq_aload_n rfl rfl rfl ?_
      refine wq_iload rfl rfl hv6 ?_
      obtain ⟨F12, e13, h⟩ := od_upE h
      refine wmE_put rfl (by decide) (wq_I hv6) e13 ?_
      have T14 : wm_T F12 := wd_T e13 (T11.uf (f := 62) (c := 0) (v := v6) rfl (show v6 < 4294967296 from hv6))
      exact wq_ret rfl (wkON h T14)
  · replace h := od_neg h (Nat.not_lt.mpr h1)
    refine wq_aload_n rfl rfl rfl ?_
    refine wq_iload rfl rfl hv8 ?_
    refine wq_iload rfl rfl (wm_zlt hv7) ?_
    refine wq_iload rfl rfl hv6 ?_
    refine wq_iload_n rfl rfl hv2 ?_
    obtain ⟨y15, e16, h⟩ := od_bindE h
    refine wd_virtI (q := 0) (y := y15) (as := [36893488147419103232, v8, v7, v6, v2]) rfl rfl rfl (by decide) (Nat.le_of_ble_eq_true rfl) (Nat.le_of_ble_eq_true rfl) rfl (Nat.le_of_ble_eq_true rfl) rfl (dkT_221 hT hv8 hv7 hv6 hv2 e16) (fun p17 T18 => ?_)
    refine wq_istore rfl p17 (Nat.le_of_ble_eq_true rfl) (Or.inr ⟨_, rfl, hu5⟩) (L' := [36893488147419103232, u1, v2, v3, u4, u5, y15.1, v7, v8]) rfl ?_
    refine wq_iconst rfl rfl ?_
    refine wq_istore rfl (wm_zlt (by decide)) (Nat.le_of_ble_eq_true rfl) (Or.inr ⟨_, rfl, (wq_notL p17)⟩) (L' := [36893488147419103232, u1, v2, v3, u4, u5, y15.1, 0, v8]) rfl ?_
    obtain ⟨y19, e20, h⟩ := od_letE h
    have p21 : y19 < 4294967296 := wd_lt e20 (Nat.mod_lt _ (by decide))
    refine wq_iincZ rfl rfl hv8 (Or.inr ⟨_, rfl, (wq_notL (wm_zlt (by decide)))⟩) rfl (z := y19) e20.symm (L' := [36893488147419103232, u1, v2, v3, u4, u5, y15.1, 0, y19]) rfl ?_
    refine wq_goto rfl rfl ?_
    exact hr88 T18 hv2 hv3 p17 (by decide) p21 hu1 hu4 hu5 h
def dk_222_88 (n : Nat) : Nat → wq_F → Nat → Nat → Nat → Nat → Nat → Option (Nat × wq_F)
  | 0 => fun _ _ _ _ _ _ => none
  | g + 1 => dk_222_88b n (dk_222_88 n g)
theorem dk_222_88T {d n : Nat} : ∀ g : Nat, ∀ ⦃u1 : Nat⦄ ⦃u4 : Nat⦄ ⦃u5 : Nat⦄ ⦃F : wq_F⦄ (hT : wm_T F) ⦃v2 : Nat⦄ (hv2 : v2 < 4294967296) ⦃v3 : Nat⦄ (hv3 : v3 < 4294967296) ⦃v6 : Nat⦄ (hv6 : v6 < 4294967296) ⦃v7 : Nat⦄ (hv7 : v7 < 2) ⦃v8 : Nat⦄ (hv8 : v8 < 4294967296) (hu1 : ev_isL u1 = false) (hu4 : ev_isL u4 = false) (hu5 : ev_isL u5 = false) ⦃x : Nat × wq_F⦄ (h : dk_222_88 n g F v2 v3 v6 v7 v8 = some x), wq (wq_cf (d + 2)) (ev_un al_mX12_resolve.2.2.2.2) none 88 [36893488147419103232, u1, v2, v3, u4, u5, v6, v7, v8] [] wm_sh F 0 0 (wkN wm_T wm_sh x)
  | 0 => by
    intro u1 u4 u5 F hT v2 hv2 v3 hv3 v6 hv6 v7 hv7 v8 hv8 hu1 hu4 hu5 x h
    cases h
  | g + 1 => dk_222_88bT (dk_222_88T g)
def dk_222_49b (n : Nat) (r14 : wq_F → Nat → Nat → Nat → Option (Nat × wq_F)) (r49 : wq_F → Nat → Nat → Nat → Nat → Option (Nat × wq_F)) (F : wq_F) (v1 : Nat) (v2 : Nat) (v3 : Nat) (v5 : Nat) : Option (Nat × wq_F) :=
  od_g (v3 < 52) <|
  if ev_s v5 < ev_s (F 31 v3) then
    od_let ((v3 + 4294967295) % 4294967296) fun y3 =>
    r14 F v1 v2 y3
  else
    od_g (v5 < 1600) <|
    if (F 29 v5) = v1 then
      od_g (v5 < 1600) <|
      dk_222_88 n n F v2 v3 (F 30 v5) 1 ((v3 + 1) % 4294967296)
    else
      od_let ((v5 + 4294967295) % 4294967296) fun y8 =>
      r49 F v1 v2 v3 y8
theorem dk_222_49bT {d n : Nat} {r14 : wq_F → Nat → Nat → Nat → Option (Nat × wq_F)} {r49 : wq_F → Nat → Nat → Nat → Nat → Option (Nat × wq_F)} (hr14 : ∀ ⦃u4 : Nat⦄ ⦃u5 : Nat⦄ ⦃F : wq_F⦄ (hT : wm_T F) ⦃v1 : Nat⦄ (hv1 : v1 < 4294967296) ⦃v2 : Nat⦄ (hv2 : v2 < 4294967296) ⦃v3 : Nat⦄ (hv3 : v3 < 4294967296) (hu4 : ev_isL u4 = false) (hu5 : ev_isL u5 = false) ⦃x : Nat × wq_F⦄ (h : r14 F v1 v2 v3 = some x), wq (wq_cf (d + 2)) (ev_un al_mX12_resolve.2.2.2.2) none 14 [36893488147419103232, v1, v2, v3, u4, u5, 73786976294838206464, 73786976294838206464, 73786976294838206464] [] wm_sh F 0 0 (wkN wm_T wm_sh x)) (hr49 : ∀ ⦃u4 : Nat⦄ ⦃F : wq_F⦄ (hT : wm_T F) ⦃v1 : Nat⦄ (hv1 : v1 < 4294967296) ⦃v2 : Nat⦄ (hv2 : v2 < 4294967296) ⦃v3 : Nat⦄ (hv3 : v3 < 4294967296) ⦃v5 : Nat⦄ (hv5 : v5 < 4294967296) (hu4 : ev_isL u4 = false) ⦃x : Nat × wq_F⦄ (h : r49 F v1 v2 v3 v5 = some x), wq (wq_cf (d + 2)) (ev_un al_mX12_resolve.2.2.2.2) none 49 [36893488147419103232, v1, v2, v3, u4, v5, 73786976294838206464, 73786976294838206464, 73786976294838206464] [] wm_sh F 0 0 (wkN wm_T wm_sh x)) : ∀ ⦃u4 : Nat⦄ ⦃F : wq_F⦄ (hT : wm_T F) ⦃v1 : Nat⦄ (hv1 : v1 < 4294967296) ⦃v2 : Nat⦄ (hv2 : v2 < 4294967296) ⦃v3 : Nat⦄ (hv3 : v3 < 4294967296) ⦃v5 : Nat⦄ (hv5 : v5 < 4294967296) (hu4 : ev_isL u4 = false) ⦃x : Nat × wq_F⦄ (h : dk_222_49b n r14 r49 F v1 v2 v3 v5 = some x), wq (wq_cf (d + 2)) (ev_un al_mX12_resolve.2.2.2.2) none 49 [36893488147419103232, v1, v2, v3, u4, v5, 73786976294838206464, 73786976294838206464, 73786976294838206464] [] wm_sh F 0 0 (wkN wm_T wm_sh x) := by
  intro u4 F hT v1 hv1 v2 hv2 v3 hv3 v5 hv5 hu4 x h
  unfold dk_222_49b at h
  refine wq_iload rfl rfl hv5 ?_
  refine wq_aload_n rfl rfl rfl ?_
  refine wm_getR (v := 36893488147419103263) rfl (by decide) (hT.r 51 30 rfl) ?_
  refine wq_iload_n rfl rfl hv3 ?_
  obtain ⟨g1, h⟩ := od_gE h
  refine wq_iaload (q := 31) (n := 52) rfl rfl (by decide) g1 (by decide) ?_
  refine wq_ic_lt rfl rfl hv5 (hT.ai (k := 31) rfl g1) (fun h2 => ?_) (fun h2 => ?_)
  · replace h := od_pos h h2
    obtain ⟨y3, e4, h⟩ := od_letE h
    have p5 : y3 < 4294967296 := wd_lt e4 (Nat.mod_lt _ (by decide))
    refine wq_iincZ rfl rfl hv3 (Or.inr ⟨_, rfl, (wq_notL hv2)⟩) rfl (z := y3) e4.symm (L' := [36893488147419103232, v1, v2, y3, u4, v5, 73786976294838206464, 73786976294838206464, 73786976294838206464]) rfl ?_
    refine wq_goto rfl rfl ?_
    exact hr14 hT hv1 hv2 p5 hu4 (wq_notL hv5) h
  · replace h := od_neg h (Nat.not_lt.mpr h2)
    refine wq_aload_n rfl rfl rfl ?_
    refine wm_getR (v := 36893488147419103261) rfl (by decide) (hT.r 48 28 rfl) ?_
    refine wq_iload rfl rfl hv5 ?_
    obtain ⟨g6, h⟩ := od_gE h
    refine wq_iaload (q := 29) (n := 1600) rfl rfl (by decide) g6 (by decide) ?_
    refine wq_iload_n rfl rfl hv1 ?_
    refine wq_ic_ne rfl rfl (hT.ai (k := 29) rfl g6) hv1 (fun h7 => ?_) (fun h7 => ?_)
    · replace h := od_neg h h7
      obtain ⟨y8, e9, h⟩ := od_letE h
      have p10 : y8 < 4294967296 := wd_lt e9 (Nat.mod_lt _ (by decide))
      refine wq_iincZ rfl rfl hv5 (Or.inr ⟨_, rfl, hu4⟩) rfl (z := y8) e9.symm (L' := [36893488147419103232, v1, v2, v3, u4, y8, 73786976294838206464, 73786976294838206464, 73786976294838206464]) rfl ?_
      refine wq_goto rfl rfl ?_
      exact hr49 hT hv1 hv2 hv3 p10 hu4 h
    · replace h := od_pos h h7
      refine wq_aload_n rfl rfl rfl ?_
      refine wm_getR (v := 36893488147419103262) rfl (by decide) (hT.r 49 29 rfl) ?_
      refine wq_iload rfl rfl hv5 ?_
      obtain ⟨g11, h⟩ := od_gE h
      refine wq_iaload (q := 30) (n := 1600) rfl rfl (by decide) g11 (by decide) ?_
      refine wq_istore rfl (hT.ai (k := 30) rfl g11) (Nat.le_of_ble_eq_true rfl) (Or.inr ⟨_, rfl, (wq_notL hv5)⟩) (L' := [36893488147419103232, v1, v2, v3, u4, v5, F 30 v5, 73786976294838206464, 73786976294838206464]) rfl ?_
      refine wq_iconst rfl rfl ?_
      refine wq_istore rfl (wm_zlt (by decide)) (Nat.le_of_ble_eq_true rfl) (Or.inr ⟨_, rfl, (wq_notL (hT.ai (k := 30) rfl g11))⟩) (L' := [36893488147419103232, v1, v2, v3, u4, v5, F 30 v5, 1, 73786976294838206464]) rfl ?_
      refine wq_iload_n rfl rfl hv3 ?_
      refine wq_iconst rfl rfl ?_
      refine wq_iaddZ rfl hv3 (wm_zlt (by decide)) (z := (v3 + 1) % 4294967296) rfl ?_
      refine wq_istore rfl (Nat.mod_lt _ (by decide)) (Nat.le_of_ble_eq_true rfl) (Or.inr ⟨_, rfl, (wq_notL (wm_zlt (by decide)))⟩) (L' := [36893488147419103232, v1, v2, v3, u4, v5, F 30 v5, 1, (v3 + 1) % 4294967296]) rfl ?_
      exact dk_222_88T n hT hv2 hv3 (hT.ai (k := 30) rfl g11) (by decide) (Nat.mod_lt _ (by decide)) (wq_notL hv1) hu4 (wq_notL hv5) h
def dk_222_49 (n : Nat) (r14 : wq_F → Nat → Nat → Nat → Option (Nat × wq_F)) : Nat → wq_F → Nat → Nat → Nat → Nat → Option (Nat × wq_F)
  | 0 => fun _ _ _ _ _ => none
  | g + 1 => dk_222_49b n r14 (dk_222_49 n r14 g)
theorem dk_222_49T {d n : Nat} {r14 : wq_F → Nat → Nat → Nat → Option (Nat × wq_F)} (hr14 : ∀ ⦃u4 : Nat⦄ ⦃u5 : Nat⦄ ⦃F : wq_F⦄ (hT : wm_T F) ⦃v1 : Nat⦄ (hv1 : v1 < 4294967296) ⦃v2 : Nat⦄ (hv2 : v2 < 4294967296) ⦃v3 : Nat⦄ (hv3 : v3 < 4294967296) (hu4 : ev_isL u4 = false) (hu5 : ev_isL u5 = false) ⦃x : Nat × wq_F⦄ (h : r14 F v1 v2 v3 = some x), wq (wq_cf (d + 2)) (ev_un al_mX12_resolve.2.2.2.2) none 14 [36893488147419103232, v1, v2, v3, u4, u5, 73786976294838206464, 73786976294838206464, 73786976294838206464] [] wm_sh F 0 0 (wkN wm_T wm_sh x)) : ∀ g : Nat, ∀ ⦃u4 : Nat⦄ ⦃F : wq_F⦄ (hT : wm_T F) ⦃v1 : Nat⦄ (hv1 : v1 < 4294967296) ⦃v2 : Nat⦄ (hv2 : v2 < 4294967296) ⦃v3 : Nat⦄ (hv3 : v3 < 4294967296) ⦃v5 : Nat⦄ (hv5 : v5 < 4294967296) (hu4 : ev_isL u4 = false) ⦃x : Nat × wq_F⦄ (h : dk_222_49 n r14 g F v1 v2 v3 v5 = some x), wq (wq_cf (d + 2)) (ev_un al_mX12_resolve.2.2.2.2) none 49 [36893488147419103232, v1, v2, v3, u4, v5, 73786976294838206464, 73786976294838206464, 73786976294838206464] [] wm_sh F 0 0 (wkN wm_T wm_sh x)
  | 0 => by
    intro u4 F hT v1 hv1 v2 hv2 v3 hv3 v5 hv5 hu4 x h
    cases h
  | g + 1 => dk_222_49bT hr14 (dk_222_49T hr14 g)
def dk_222_14b (n : Nat) (r14 : wq_F → Nat → Nat → Nat → Option (Nat × wq_F)) (F : wq_F) (v1 : Nat) (v2 : Nat) (v3 : Nat) : Option (Nat × wq_F) :=
  if 2147483648 ≤ v3 then
    od_up F 0 61 2 fun F2 =>
    od_up F2 0 62 v1 fun F5 =>
    some (0, F5)
  else
    if v3 = (F 0 53) then
      od_let (((F 0 50) + (4294967296 - 1)) % 4294967296) fun y13 =>
      dk_222_49 n r14 n F v1 v2 v3 y13
    else
      od_g ((v3 + 1) % 4294967296 < 52) <|
      od_let (((F 31 ((v3 + 1) % 4294967296)) + (4294967296 - 1)) % 4294967296) fun y10 =>
      dk_222_49 n r14 n F v1 v2 v3 y10
theorem dk_222_14bT {d n : Nat} {r14 : wq_F → Nat → Nat → Nat → Option (Nat × wq_F)} (hr14 : ∀ ⦃u4 : Nat⦄ ⦃u5 : Nat⦄ ⦃F : wq_F⦄ (hT : wm_T F) ⦃v1 : Nat⦄ (hv1 : v1 < 4294967296) ⦃v2 : Nat⦄ (hv2 : v2 < 4294967296) ⦃v3 : Nat⦄ (hv3 : v3 < 4294967296) (hu4 : ev_isL u4 = false) (hu5 : ev_isL u5 = false) ⦃x : Nat × wq_F⦄ (h : r14 F v1 v2 v3 = some x), wq (wq_cf (d + 2)) (ev_un al_mX12_resolve.2.2.2.2) none 14 [36893488147419103232, v1, v2, v3, u4, u5, 73786976294838206464, 73786976294838206464, 73786976294838206464] [] wm_sh F 0 0 (wkN wm_T wm_sh x)) : ∀ ⦃u4 : Nat⦄ ⦃u5 : Nat⦄ ⦃F : wq_F⦄ (hT : wm_T F) ⦃v1 : Nat⦄ (hv1 : v1 < 4294967296) ⦃v2 : Nat⦄ (hv2 : v2 < 4294967296) ⦃v3 : Nat⦄ (hv3 : v3 < 4294967296) (hu4 : ev_isL u4 = false) (hu5 : ev_isL u5 = false) ⦃x : Nat × wq_F⦄ (h : dk_222_14b n r14 F v1 v2 v3 = some x), wq (wq_cf (d + 2)) (ev_un al_mX12_resolve.2.2.2.2) none 14 [36893488147419103232, v1, v2, v3, u4, u5, 73786976294838206464, 73786976294838206464, 73786976294838206464] [] wm_sh F 0 0 (wkN wm_T wm_sh x) := by
  intro u4 u5 F hT v1 hv1 v2 hv2 v3 hv3 hu4 hu5 x h
  unfold dk_222_14b at h
  refine wq_iload_n rfl rfl hv3 ?_
  refine wq_if_lt rfl rfl hv3 (fun h1 => ?_) (fun h1 => ?_)
  · replace h := od_pos h h1
    refine wq_aload_n rfl rfl rfl ?_
    refine wq_iconst rfl rfl ?_
    obtain ⟨F2, e3, h⟩ := od_upE h
    refine wmE_put rfl (by decide) (wq_I (by decide)) e3 ?_
    have T4 : wm_T F2 := wd_T e3 (hT.uf (f := 61) (c := 0) (v := 2) rfl (show 2 < 4294967296 from (by decide)))
    refine wq_aload_n rfl rfl rfl ?_
    refine wq_iload_n rfl rfl hv1 ?_
    obtain ⟨F5, e6, h⟩ := od_upE h
    refine wmE_put rfl (by decide) (wq_I hv1) e6 ?_
    have T7 : wm_T F5 := wd_T e6 (T4.uf (f := 62) (c := 0) (v := v1) rfl (show v1 < 4294967296 from hv1))
    exact wq_ret rfl (wkON h T7)
  · replace h := od_neg h (Nat.not_le.mpr h1)
    refine wq_iload_n rfl rfl hv3 ?_
    refine wq_aload_n rfl rfl rfl ?_
    refine wm_getI rfl (by decide) ?_
    refine wq_ic_ne rfl rfl hv3 (hT.i 53 rfl) (fun h8 => ?_) (fun h8 => ?_)
    · replace h := od_neg h h8
      refine wq_aload_n rfl rfl rfl ?_
      refine wm_getR (v := 36893488147419103263) rfl (by decide) (hT.r 51 30 rfl) ?_
      refine wq_iload_n rfl rfl hv3 ?_
      refine wq_iconst rfl rfl ?_
      refine wq_iaddZ rfl hv3 (wm_zlt (by decide)) (z := (v3 + 1) % 4294967296) rfl ?_
      obtain ⟨g9, h⟩ := od_gE h
      refine wq_iaload (q := 31) (n := 52) rfl rfl (by decide) g9 (by decide) ?_
      refine wq_istore rfl (hT.ai (k := 31) rfl g9) (Nat.le_of_ble_eq_true rfl) (Or.inr ⟨_, rfl, (wq_notL hv3)⟩) (L' := [36893488147419103232, v1, v2, v3, F 31 ((v3 + 1) % 4294967296), u5, 73786976294838206464, 73786976294838206464, 73786976294838206464]) rfl ?_
      refine wq_iload rfl rfl (hT.ai (k := 31) rfl g9) ?_
      refine wq_iconst rfl rfl ?_
      refine wq_isubZ rfl (hT.ai (k := 31) rfl g9) (wm_zlt (by decide)) (z := ((F 31 ((v3 + 1) % 4294967296)) + (4294967296 - 1)) % 4294967296) rfl ?_
      obtain ⟨y10, e11, h⟩ := od_letE h
      refine wq_top e11.symm ?_
      have p12 : y10 < 4294967296 := wd_lt e11 (Nat.mod_lt _ (by decide))
      refine wq_istore rfl p12 (Nat.le_of_ble_eq_true rfl) (Or.inr ⟨_, rfl, (wq_notL (hT.ai (k := 31) rfl g9))⟩) (L' := [36893488147419103232, v1, v2, v3, F 31 ((v3 + 1) % 4294967296), y10, 73786976294838206464, 73786976294838206464, 73786976294838206464]) rfl ?_
      exact dk_222_49T hr14 n hT hv1 hv2 hv3 p12 (wq_notL (hT.ai (k := 31) rfl g9)) h
    · replace h := od_pos h h8
      refine wq_aload_n rfl rfl rfl ?_
      refine wm_getI rfl (by decide) ?_
      refine wq_goto rfl rfl ?_
      refine wq_istore rfl (hT.i 50 rfl) (Nat.le_of_ble_eq_true rfl) (Or.inr ⟨_, rfl, (wq_notL hv3)⟩) (L' := [36893488147419103232, v1, v2, v3, F 0 50, u5, 73786976294838206464, 73786976294838206464, 73786976294838206464]) rfl ?_
      refine wq_iload rfl rfl (hT.i 50 rfl) ?_
      refine wq_iconst rfl rfl ?_
      refine wq_isubZ rfl (hT.i 50 rfl) (wm_zlt (by decide)) (z := ((F 0 50) + (4294967296 - 1)) % 4294967296) rfl ?_
      obtain ⟨y13, e14, h⟩ := od_letE h
      refine wq_top e14.symm ?_
      have p15 : y13 < 4294967296 := wd_lt e14 (Nat.mod_lt _ (by decide))
      refine wq_istore rfl p15 (Nat.le_of_ble_eq_true rfl) (Or.inr ⟨_, rfl, (wq_notL (hT.i 50 rfl))⟩) (L' := [36893488147419103232, v1, v2, v3, F 0 50, y13, 73786976294838206464, 73786976294838206464, 73786976294838206464]) rfl ?_
      exact dk_222_49T hr14 n hT hv1 hv2 hv3 p15 (wq_notL (hT.i 50 rfl)) h
def dk_222_14 (n : Nat) : Nat → wq_F → Nat → Nat → Nat → Option (Nat × wq_F)
  | 0 => fun _ _ _ _ => none
  | g + 1 => dk_222_14b n (dk_222_14 n g)
theorem dk_222_14T {d n : Nat} : ∀ g : Nat, ∀ ⦃u4 : Nat⦄ ⦃u5 : Nat⦄ ⦃F : wq_F⦄ (hT : wm_T F) ⦃v1 : Nat⦄ (hv1 : v1 < 4294967296) ⦃v2 : Nat⦄ (hv2 : v2 < 4294967296) ⦃v3 : Nat⦄ (hv3 : v3 < 4294967296) (hu4 : ev_isL u4 = false) (hu5 : ev_isL u5 = false) ⦃x : Nat × wq_F⦄ (h : dk_222_14 n g F v1 v2 v3 = some x), wq (wq_cf (d + 2)) (ev_un al_mX12_resolve.2.2.2.2) none 14 [36893488147419103232, v1, v2, v3, u4, u5, 73786976294838206464, 73786976294838206464, 73786976294838206464] [] wm_sh F 0 0 (wkN wm_T wm_sh x)
  | 0 => by
    intro u4 u5 F hT v1 hv1 v2 hv2 v3 hv3 hu4 hu5 x h
    cases h
  | g + 1 => dk_222_14bT (dk_222_14T g)
/-- X12_resolve -/
def dk_222 (n : Nat) (F : wq_F) (a0 : Nat) (a1 : Nat) : Option (Nat × wq_F) :=
  (dk_196 F a1).bind fun y1 =>
  od_up y1.2 0 63 y1.1 fun F5 =>
  dk_222_14 n n F5 a0 a1 (F5 0 53)
theorem dkT_222 {d n : Nat} {F : wq_F} (hT : wm_T F) {a0 : Nat} (ha0 : a0 < 4294967296) {a1 : Nat} (ha1 : a1 < 4294967296) {x : Nat × wq_F} (h : dk_222 n F a0 a1 = some x) : mq (d + 2 + 1) 222 [36893488147419103232, a0, a1] wm_sh F (wkN wm_T wm_sh x) := by
  have e : ev_ent [36893488147419103232, a0, a1] = [36893488147419103232, a0, a1] := by
    show 36893488147419103232 :: ev_ent [a0, a1] = _
    rw [wm_entI ha0, wm_entI ha1]
    rfl
  refine mq_of (maxL := 9) (rt := none) (code := (ev_un al_mX12_resolve.2.2.2.2)) (L := [36893488147419103232, a0, a1, 73786976294838206464, 73786976294838206464, 73786976294838206464, 73786976294838206464, 73786976294838206464, 73786976294838206464]) rfl (by rw [e]; exact Nat.le_of_ble_eq_true rfl) (by rw [e]; rfl) ?_
  unfold dk_222 at h
  refine wq_aload_n rfl rfl rfl ?_
  refine wq_aload_n rfl rfl rfl ?_
  refine wq_iload_n rfl rfl ha1 ?_
  obtain ⟨y1, e2, h⟩ := od_bindE h
  refine wd_virtI (q := 0) (y := y1) (as := [36893488147419103232, a1]) rfl rfl rfl (by decide) (Nat.le_of_ble_eq_true rfl) (Nat.le_of_ble_eq_true rfl) rfl (Nat.le_of_ble_eq_true rfl) rfl (dkT_196 hT ha1 e2) (fun p3 T4 => ?_)
  obtain ⟨F5, e6, h⟩ := od_upE h
  refine wmE_put rfl (by decide) (wq_I p3) e6 ?_
  have T7 : wm_T F5 := wd_T e6 (T4.uf (f := 63) (c := 0) (v := y1.1) rfl (show y1.1 < 4294967296 from p3))
  refine wq_aload_n rfl rfl rfl ?_
  refine wm_getI rfl (by decide) ?_
  refine wq_istore_n rfl (T7.i 53 rfl) (Nat.le_of_ble_eq_true rfl) (Or.inr ⟨_, rfl, (wq_notL ha1)⟩) (L' := [36893488147419103232, a0, a1, F5 0 53, 73786976294838206464, 73786976294838206464, 73786976294838206464, 73786976294838206464, 73786976294838206464]) rfl ?_
  exact dk_222_14T n T7 ha0 ha1 (T7.i 53 rfl) rfl rfl h
/-- X12_discharge -/
def dk_223 (F : wq_F) : Option (Nat × wq_F) :=
  if ev_s 2 < ev_s (F 0 61) then
    if (F 0 61) = 3 then
      (dk_30 F 12 0 0 (F 0 63)).bind fun y3 =>
      some (0, y3.2)
    else
      some (0, F)
  else
    (dk_30 F ((6 + (F 0 61)) % 4294967296) (F 0 62) 0 (F 0 63)).bind fun y7 =>
    some (0, y7.2)
theorem dkT_223 {d : Nat} {F : wq_F} (hT : wm_T F) {x : Nat × wq_F} (h : dk_223 F = some x) : mq (d + 1 + 1) 223 [36893488147419103232] wm_sh F (wkN wm_T wm_sh x) := by
  have e : ev_ent [36893488147419103232] = [36893488147419103232] := by
    rfl
  refine mq_of (maxL := 2) (rt := none) (code := (ev_un al_mX12_discharge.2.2.2.2)) (L := [36893488147419103232, 73786976294838206464]) rfl (by rw [e]; exact Nat.le_of_ble_eq_true rfl) (by rw [e]; rfl) ?_
  unfold dk_223 at h
  refine wq_iconst rfl rfl ?_
  refine wq_istore_n rfl (wm_zlt (by decide)) (Nat.le_of_ble_eq_true rfl) (Or.inr ⟨_, rfl, rfl⟩) (L' := [36893488147419103232, 0]) rfl ?_
  refine wq_aload_n rfl rfl rfl ?_
  refine wm_getI rfl (by decide) ?_
  refine wq_iconst rfl rfl ?_
  refine wq_ic_gt rfl rfl (hT.i 61 rfl) (by decide) (fun h1 => ?_) (fun h1 => ?_)
  · replace h := od_pos h h1
    refine wq_aload_n rfl rfl rfl ?_
    refine wm_getI rfl (by decide) ?_
    refine wq_iconst rfl rfl ?_
    refine wq_ic_ne rfl rfl (hT.i 61 rfl) (by decide) (fun h2 => ?_) (fun h2 => ?_)
    · replace h := od_neg h h2
      exact wq_ret rfl (wkON h hT)
    · replace h := od_pos h h2
      refine wq_aload_n rfl rfl rfl ?_
      refine wq_bipush rfl rfl ?_
      refine wq_iconst rfl rfl ?_
      refine wq_iconst rfl rfl ?_
      refine wq_aload_n rfl rfl rfl ?_
      refine wm_getI rfl (by decide) ?_
      obtain ⟨y3, e4, h⟩ := od_bindE h
      refine wd_virtI (q := 0) (y := y3) (as := [36893488147419103232, 12, 0, 0, F 0 63]) rfl rfl rfl (by decide) (Nat.le_of_ble_eq_true rfl) (Nat.le_of_ble_eq_true rfl) rfl (Nat.le_of_ble_eq_true rfl) rfl (dkT_30 hT (by decide) (wm_zlt (by decide)) (wm_zlt (by decide)) (hT.i 63 rfl) e4) (fun p5 T6 => ?_)
      refine wq_istore_n rfl p5 (Nat.le_of_ble_eq_true rfl) (Or.inr ⟨_, rfl, rfl⟩) (L' := [36893488147419103232, y3.1]) rfl ?_
      exact wq_ret rfl (wkON h T6)
  · replace h := od_neg h (Nat.not_lt.mpr h1)
    refine wq_aload_n rfl rfl rfl ?_
    refine wq_bipush rfl rfl ?_
    refine wq_aload_n rfl rfl rfl ?_
    refine wm_getI rfl (by decide) ?_
    refine wq_iaddZ rfl (by decide) (hT.i 61 rfl) (z := (6 + (F 0 61)) % 4294967296) rfl ?_
    refine wq_aload_n rfl rfl rfl ?_
    refine wm_getI rfl (by decide) ?_
    refine wq_iconst rfl rfl ?_
    refine wq_aload_n rfl rfl rfl ?_
    refine wm_getI rfl (by decide) ?_
    obtain ⟨y7, e8, h⟩ := od_bindE h
    refine wd_virtI (q := 0) (y := y7) (as := [36893488147419103232, (6 + (F 0 61)) % 4294967296, F 0 62, 0, F 0 63]) rfl rfl rfl (by decide) (Nat.le_of_ble_eq_true rfl) (Nat.le_of_ble_eq_true rfl) rfl (Nat.le_of_ble_eq_true rfl) rfl (dkT_30 hT (Nat.mod_lt _ (by decide)) (hT.i 62 rfl) (wm_zlt (by decide)) (hT.i 63 rfl) e8) (fun p9 T10 => ?_)
    refine wq_istore_n rfl p9 (Nat.le_of_ble_eq_true rfl) (Or.inr ⟨_, rfl, rfl⟩) (L' := [36893488147419103232, y7.1]) rfl ?_
    refine wq_goto rfl rfl ?_
    exact wq_ret rfl (wkON h T10)
def dk_232_177 (n : Nat) (F : wq_F) (v2 : Nat) : Option (Nat × wq_F) :=
  (dk_31 F 41 (F 0 61) (F 0 62) (F 0 63)).bind fun y1 =>
  (dk_31 y1.2 19 v2 0 0).bind fun y5 =>
  some (1, y5.2)
theorem dk_232_177T {d n : Nat} : ∀ ⦃u1 : Nat⦄ ⦃u3 : Nat⦄ ⦃F : wq_F⦄ (hT : wm_T F) ⦃v2 : Nat⦄ (hv2 : v2 < 2) (hu1 : ev_isL u1 = false) (hu3 : ev_isL u3 = false) ⦃x : Nat × wq_F⦄ (h : dk_232_177 n F v2 = some x), wq (wq_cf (d + 3)) (ev_un al_mX12_readFunction.2.2.2.2) (some .boolean) 177 [36893488147419103232, u1, v2, u3] [] wm_sh F 0 0 (wkZ wm_T wm_sh x) := by
  intro u1 u3 F hT v2 hv2 hu1 hu3 x h
  unfold dk_232_177 at h
  refine wq_aload_n rfl rfl rfl ?_
  refine wq_bipush rfl rfl ?_
  refine wq_aload_n rfl rfl rfl ?_
  refine wm_getI rfl (by decide) ?_
  refine wq_aload_n rfl rfl rfl ?_
  refine wm_getI rfl (by decide) ?_
  refine wq_aload_n rfl rfl rfl ?_
  refine wm_getI rfl (by decide) ?_
  obtain ⟨y1, e2, h⟩ := od_bindE h
  refine wd_virtN (q := 0) (y := y1) (as := [36893488147419103232, 41, F 0 61, F 0 62, F 0 63]) rfl rfl rfl (by decide) (Nat.le_of_ble_eq_true rfl) (Nat.le_of_ble_eq_true rfl) rfl (Nat.le_of_ble_eq_true rfl) rfl (dkT_31 hT (by decide) (hT.i 61 rfl) (hT.i 62 rfl) (hT.i 63 rfl) e2) (fun T4 => ?_)
  refine wq_aload_n rfl rfl rfl ?_
  refine wq_bipush rfl rfl ?_
  refine wq_iload_n rfl rfl (wm_zlt hv2) ?_
  refine wq_iconst rfl rfl ?_
  refine wq_iconst rfl rfl ?_
  obtain ⟨y5, e6, h⟩ := od_bindE h
  refine wd_virtN (q := 0) (y := y5) (as := [36893488147419103232, 19, v2, 0, 0]) rfl rfl rfl (by decide) (Nat.le_of_ble_eq_true rfl) (Nat.le_of_ble_eq_true rfl) rfl (Nat.le_of_ble_eq_true rfl) rfl (dkT_31 T4 (by decide) (wm_zlt hv2) (wm_zlt (by decide)) (wm_zlt (by decide)) e6) (fun T8 => ?_)
  refine wq_iconst rfl rfl ?_
  exact wq_iret rfl (wm_zlt (by decide)) (Nat.blt_eq.mpr (by decide)) (wkOZ h T8 (by decide))
def dk_232_100 (n : Nat) (r64 : wq_F → Nat → Option (Nat × wq_F)) (F : wq_F) (s0 : Nat) : Option (Nat × wq_F) :=
  (dk_215 F).bind fun y1 =>
  (dk_223 y1.2).bind fun y5 =>
  (dk_212 y5.2).bind fun y9 =>
  if y9.1 = 0 then
    some (0, y9.2)
  else
    od_g (y9.2 0 25 < 1502) <|
    if (y9.2 9 (y9.2 0 25)) = 1 then
      od_g (y9.2 0 25 < 1502) <|
      od_let (18446744073709551616 + y9.2 11 (y9.2 0 25)) fun y17 =>
      (dk_30 y9.2 5 (ev_oL2i y17) 0 0).bind fun y20 =>
      od_up y20.2 0 61 3 fun F24 =>
      od_up F24 0 63 y1.1 fun F27 =>
      (dk_212 F27).bind fun y30 =>
      if y30.1 = 0 then
        some (0, y30.2)
      else
        r64 y30.2 s0
    else
      (dk_211 y9.2).bind fun y35 =>
      some (y35.1, y35.2)
theorem dk_232_100T {d n : Nat} {r64 : wq_F → Nat → Option (Nat × wq_F)} (hr64 : ∀ ⦃u1 : Nat⦄ ⦃u3 : Nat⦄ ⦃F : wq_F⦄ (hT : wm_T F) ⦃v2 : Nat⦄ (hv2 : v2 < 2) (hu1 : ev_isL u1 = false) (hu3 : ev_isL u3 = false) ⦃x : Nat × wq_F⦄ (h : r64 F v2 = some x), wq (wq_cf (d + 3)) (ev_un al_mX12_readFunction.2.2.2.2) (some .boolean) 64 [36893488147419103232, u1, v2, u3] [] wm_sh F 0 0 (wkZ wm_T wm_sh x)) : ∀ ⦃u1 : Nat⦄ ⦃u2 : Nat⦄ ⦃u3 : Nat⦄ ⦃F : wq_F⦄ (hT : wm_T F) ⦃s0 : Nat⦄ (hs0 : s0 < 2) (hu1 : ev_isL u1 = false) (hu2 : ev_isL u2 = false) (hu3 : ev_isL u3 = false) ⦃x : Nat × wq_F⦄ (h : dk_232_100 n r64 F s0 = some x), wq (wq_cf (d + 3)) (ev_un al_mX12_readFunction.2.2.2.2) (some .boolean) 100 [36893488147419103232, u1, u2, u3] [s0] wm_sh F 0 0 (wkZ wm_T wm_sh x) := by
  intro u1 u2 u3 F hT s0 hs0 hu1 hu2 hu3 x h
  unfold dk_232_100 at h
  refine wq_istore_n rfl (wm_zlt hs0) (Nat.le_of_ble_eq_true rfl) (Or.inr ⟨_, rfl, hu1⟩) (L' := [36893488147419103232, u1, s0, u3]) rfl ?_
  refine wq_aload_n rfl rfl rfl ?_
  obtain ⟨y1, e2, h⟩ := od_bindE h
  refine wd_virtI (q := 0) (y := y1) (as := [36893488147419103232]) rfl rfl rfl (by decide) (Nat.le_of_ble_eq_true rfl) (Nat.le_of_ble_eq_true rfl) rfl (Nat.le_of_ble_eq_true rfl) rfl (dkT_215 hT e2) (fun p3 T4 => ?_)
  refine wq_istore_n rfl p3 (Nat.le_of_ble_eq_true rfl) (Or.inr ⟨_, rfl, (wq_notL (wm_zlt hs0))⟩) (L' := [36893488147419103232, u1, s0, y1.1]) rfl ?_
  refine wq_aload_n rfl rfl rfl ?_
  obtain ⟨y5, e6, h⟩ := od_bindE h
  refine wd_virtN (q := 0) (y := y5) (as := [36893488147419103232]) rfl rfl rfl (by decide) (Nat.le_of_ble_eq_true rfl) (Nat.le_of_ble_eq_true rfl) rfl (Nat.le_of_ble_eq_true rfl) rfl (dkT_223 T4 e6) (fun T8 => ?_)
  refine wq_aload_n rfl rfl rfl ?_
  obtain ⟨y9, e10, h⟩ := od_bindE h
  refine wd_virtZ (q := 0) (y := y9) (as := [36893488147419103232]) rfl rfl rfl (by decide) (Nat.le_of_ble_eq_true rfl) (Nat.le_of_ble_eq_true rfl) rfl (Nat.le_of_ble_eq_true rfl) rfl (dkT_212 T8 e10) (fun p11 T12 => ?_)
  refine wq_if_ne rfl rfl (wm_zlt p11) (fun h13 => ?_) (fun h13 => ?_)
  · replace h := od_neg h h13
    refine wq_aload_n rfl rfl rfl ?_
    refine wm_getR (v := 36893488147419103241) rfl (by decide) (T12.r 21 8 rfl) ?_
    refine wq_aload_n rfl rfl rfl ?_
    refine wm_getI rfl (by decide) ?_
    obtain ⟨g14, h⟩ := od_gE h
    refine wq_iaload (q := 9) (n := 1502) rfl rfl (by decide) g14 (by decide) ?_
    refine wq_iconst rfl rfl ?_
    refine wq_ic_eq rfl rfl (T12.ai (k := 9) rfl g14) (wm_zlt (by decide)) (fun h15 => ?_) (fun h15 => ?_)
    · replace h := od_pos h h15
      refine wq_aload_n rfl rfl rfl ?_
      refine wq_iconst rfl rfl ?_
      refine wq_aload_n rfl rfl rfl ?_
      refine wm_getR (v := 36893488147419103243) rfl (by decide) (T12.r 23 10 rfl) ?_
      refine wq_aload_n rfl rfl rfl ?_
      refine wm_getI rfl (by decide) ?_
      obtain ⟨g16, h⟩ := od_gE h
      refine wq_laload (q := 11) (n := 1502) rfl rfl (by decide) g16 (by decide) ?_
      obtain ⟨y17, e18, h⟩ := od_letE h
      refine wq_top e18.symm ?_
      have p19 : ev_isL y17 = true := wd_ge e18 (wm_al_L (T12.al (k := 11) rfl g16))
      refine wq_l2i rfl p19 ?_
      refine wq_iconst rfl rfl ?_
      refine wq_iconst rfl rfl ?_
      obtain ⟨y20, e21, h⟩ := od_bindE h
      refine wd_virtI (q := 0) (y := y20) (as := [36893488147419103232, 5, ev_oL2i y17, 0, 0]) rfl rfl rfl (by decide) (Nat.le_of_ble_eq_true rfl) (Nat.le_of_ble_eq_true rfl) rfl (Nat.le_of_ble_eq_true rfl) rfl (dkT_30 T12 (by decide) (Nat.mod_lt _ (by decide)) (wm_zlt (by decide)) (wm_zlt (by decide)) e21) (fun p22 T23 => ?_)
      refine wq_istore_n rfl p22 (Nat.le_of_ble_eq_true rfl) (Or.inr ⟨_, rfl, rfl⟩) (L' := [36893488147419103232, y20.1, s0, y1.1]) rfl ?_
      refine wq_aload_n rfl rfl rfl ?_
      refine wq_iconst rfl rfl ?_
      obtain ⟨F24, e25, h⟩ := od_upE h
      refine wmE_put rfl (by decide) (wq_I (by decide)) e25 ?_
      have T26 : wm_T F24 := wd_T e25 (T23.uf (f := 61) (c := 0) (v := 3) rfl (show 3 < 4294967296 from (by decide)))
      refine wq_aload_n rfl rfl rfl ?_
      refine wq_iload_n rfl rfl p3 ?_
      obtain ⟨F27, e28, h⟩ := od_upE h
      refine wmE_put rfl (by decide) (wq_I p3) e28 ?_
      have T29 : wm_T F27 := wd_T e28 (T26.uf (f := 63) (c := 0) (v := y1.1) rfl (show y1.1 < 4294967296 from p3))
      refine wq_aload_n rfl rfl rfl ?_
      obtain ⟨y30, e31, h⟩ := od_bindE h
      refine wd_virtZ (q := 0) (y := y30) (as := [36893488147419103232]) rfl rfl rfl (by decide) (Nat.le_of_ble_eq_true rfl) (Nat.le_of_ble_eq_true rfl) rfl (Nat.le_of_ble_eq_true rfl) rfl (dkT_212 T29 e31) (fun p32 T33 => ?_)
      refine wq_if_ne rfl rfl (wm_zlt p32) (fun h34 => ?_) (fun h34 => ?_)
      · replace h := od_neg h h34
        refine wq_goto rfl rfl ?_
        exact hr64 T33 hs0 (wq_notL p22) (wq_notL p3) h
      · replace h := od_pos h h34
        refine wq_iconst rfl rfl ?_
        exact wq_iret rfl (wm_zlt (by decide)) (Nat.blt_eq.mpr (by decide)) (wkOZ h T33 (by decide))
    · replace h := od_neg h h15
      refine wq_aload_n rfl rfl rfl ?_
      obtain ⟨y35, e36, h⟩ := od_bindE h
      refine wd_virtZ (q := 0) (y := y35) (as := [36893488147419103232]) rfl rfl rfl (by decide) (Nat.le_of_ble_eq_true rfl) (Nat.le_of_ble_eq_true rfl) rfl (Nat.le_of_ble_eq_true rfl) rfl (dkT_211 T12 e36) (fun p37 T38 => ?_)
      exact wq_iret rfl (wm_zlt p37) (Nat.blt_eq.mpr p37) (wkOZ h T38 p37)
  · replace h := od_pos h h13
    refine wq_iconst rfl rfl ?_
    exact wq_iret rfl (wm_zlt (by decide)) (Nat.blt_eq.mpr (by decide)) (wkOZ h T12 (by decide))
def dk_232_82 (n : Nat) (r64 : wq_F → Nat → Option (Nat × wq_F)) (F : wq_F) (v2 : Nat) : Option (Nat × wq_F) :=
  if v2 = 0 then
    (dk_36 F 58).bind fun y2 =>
    if y2.1 = 0 then
      dk_232_100 n r64 y2.2 0
    else
      dk_232_100 n r64 y2.2 1
  else
    dk_232_177 n F v2
theorem dk_232_82T {d n : Nat} {r64 : wq_F → Nat → Option (Nat × wq_F)} (hr64 : ∀ ⦃u1 : Nat⦄ ⦃u3 : Nat⦄ ⦃F : wq_F⦄ (hT : wm_T F) ⦃v2 : Nat⦄ (hv2 : v2 < 2) (hu1 : ev_isL u1 = false) (hu3 : ev_isL u3 = false) ⦃x : Nat × wq_F⦄ (h : r64 F v2 = some x), wq (wq_cf (d + 3)) (ev_un al_mX12_readFunction.2.2.2.2) (some .boolean) 64 [36893488147419103232, u1, v2, u3] [] wm_sh F 0 0 (wkZ wm_T wm_sh x)) : ∀ ⦃u1 : Nat⦄ ⦃u3 : Nat⦄ ⦃F : wq_F⦄ (hT : wm_T F) ⦃v2 : Nat⦄ (hv2 : v2 < 2) (hu1 : ev_isL u1 = false) (hu3 : ev_isL u3 = false) ⦃x : Nat × wq_F⦄ (h : dk_232_82 n r64 F v2 = some x), wq (wq_cf (d + 3)) (ev_un al_mX12_readFunction.2.2.2.2) (some .boolean) 82 [36893488147419103232, u1, v2, u3] [] wm_sh F 0 0 (wkZ wm_T wm_sh x) := by
  intro u1 u3 F hT v2 hv2 hu1 hu3 x h
  unfold dk_232_82 at h
  refine wq_iload_n rfl rfl (wm_zlt hv2) ?_
  refine wq_if_ne rfl rfl (wm_zlt hv2) (fun h1 => ?_) (fun h1 => ?_)
  · replace h := od_neg h h1
    exact dk_232_177T hT hv2 hu1 hu3 h
  · replace h := od_pos h h1
    refine wq_aload_n rfl rfl rfl ?_
    refine wq_bipush rfl rfl ?_
    obtain ⟨y2, e3, h⟩ := od_bindE h
    refine wd_virtZ (q := 0) (y := y2) (as := [36893488147419103232, 58]) rfl rfl rfl (by decide) (Nat.le_of_ble_eq_true rfl) (Nat.le_of_ble_eq_true rfl) rfl (Nat.le_of_ble_eq_true rfl) rfl (dkT_36 hT (by decide) e3) (fun p4 T5 => ?_)
    refine wq_if_eq rfl rfl (wm_zlt p4) (fun h6 => ?_) (fun h6 => ?_)
    · replace h := od_pos h h6
      refine wq_iconst rfl rfl ?_
      exact dk_232_100T hr64 T5 (by decide) hu1 (wq_notL (wm_zlt hv2)) hu3 h
    · replace h := od_neg h h6
      refine wq_iconst rfl rfl ?_
      refine wq_goto rfl rfl ?_
      exact dk_232_100T hr64 T5 (by decide) hu1 (wq_notL (wm_zlt hv2)) hu3 h
def dk_232_64b (n : Nat) (r64 : wq_F → Nat → Option (Nat × wq_F)) (F : wq_F) (v2 : Nat) : Option (Nat × wq_F) :=
  (dk_36 F 46).bind fun y1 =>
  if y1.1 = 0 then
    (dk_36 y1.2 58).bind fun y6 =>
    if y6.1 = 0 then
      dk_232_177 n y6.2 v2
    else
      dk_232_82 n r64 y6.2 v2
  else
    dk_232_82 n r64 y1.2 v2
theorem dk_232_64bT {d n : Nat} {r64 : wq_F → Nat → Option (Nat × wq_F)} (hr64 : ∀ ⦃u1 : Nat⦄ ⦃u3 : Nat⦄ ⦃F : wq_F⦄ (hT : wm_T F) ⦃v2 : Nat⦄ (hv2 : v2 < 2) (hu1 : ev_isL u1 = false) (hu3 : ev_isL u3 = false) ⦃x : Nat × wq_F⦄ (h : r64 F v2 = some x), wq (wq_cf (d + 3)) (ev_un al_mX12_readFunction.2.2.2.2) (some .boolean) 64 [36893488147419103232, u1, v2, u3] [] wm_sh F 0 0 (wkZ wm_T wm_sh x)) : ∀ ⦃u1 : Nat⦄ ⦃u3 : Nat⦄ ⦃F : wq_F⦄ (hT : wm_T F) ⦃v2 : Nat⦄ (hv2 : v2 < 2) (hu1 : ev_isL u1 = false) (hu3 : ev_isL u3 = false) ⦃x : Nat × wq_F⦄ (h : dk_232_64b n r64 F v2 = some x), wq (wq_cf (d + 3)) (ev_un al_mX12_readFunction.2.2.2.2) (some .boolean) 64 [36893488147419103232, u1, v2, u3] [] wm_sh F 0 0 (wkZ wm_T wm_sh x) := by
  intro u1 u3 F hT v2 hv2 hu1 hu3 x h
  unfold dk_232_64b at h
  refine wq_aload_n rfl rfl rfl ?_
  refine wq_bipush rfl rfl ?_
  obtain ⟨y1, e2, h⟩ := od_bindE h
  refine wd_virtZ (q := 0) (y := y1) (as := [36893488147419103232, 46]) rfl rfl rfl (by decide) (Nat.le_of_ble_eq_true rfl) (Nat.le_of_ble_eq_true rfl) rfl (Nat.le_of_ble_eq_true rfl) rfl (dkT_36 hT (by decide) e2) (fun p3 T4 => ?_)
  refine wq_if_ne rfl rfl (wm_zlt p3) (fun h5 => ?_) (fun h5 => ?_)
  · replace h := od_neg h h5
    exact dk_232_82T hr64 T4 hv2 hu1 hu3 h
  · replace h := od_pos h h5
    refine wq_aload_n rfl rfl rfl ?_
    refine wq_bipush rfl rfl ?_
    obtain ⟨y6, e7, h⟩ := od_bindE h
    refine wd_virtZ (q := 0) (y := y6) (as := [36893488147419103232, 58]) rfl rfl rfl (by decide) (Nat.le_of_ble_eq_true rfl) (Nat.le_of_ble_eq_true rfl) rfl (Nat.le_of_ble_eq_true rfl) rfl (dkT_36 T4 (by decide) e7) (fun p8 T9 => ?_)
    refine wq_if_eq rfl rfl (wm_zlt p8) (fun h10 => ?_) (fun h10 => ?_)
    · replace h := od_pos h h10
      exact dk_232_177T T9 hv2 hu1 hu3 h
    · replace h := od_neg h h10
      exact dk_232_82T hr64 T9 hv2 hu1 hu3 h
def dk_232_64 (n : Nat) : Nat → wq_F → Nat → Option (Nat × wq_F)
  | 0 => fun _ _ => none
  | g + 1 => dk_232_64b n (dk_232_64 n g)
theorem dk_232_64T {d n : Nat} : ∀ g : Nat, ∀ ⦃u1 : Nat⦄ ⦃u3 : Nat⦄ ⦃F : wq_F⦄ (hT : wm_T F) ⦃v2 : Nat⦄ (hv2 : v2 < 2) (hu1 : ev_isL u1 = false) (hu3 : ev_isL u3 = false) ⦃x : Nat × wq_F⦄ (h : dk_232_64 n g F v2 = some x), wq (wq_cf (d + 3)) (ev_un al_mX12_readFunction.2.2.2.2) (some .boolean) 64 [36893488147419103232, u1, v2, u3] [] wm_sh F 0 0 (wkZ wm_T wm_sh x)
  | 0 => by
    intro u1 u3 F hT v2 hv2 hu1 hu3 x h
    cases h
  | g + 1 => dk_232_64bT (dk_232_64T g)
/-- X12_readFunction -/
def dk_232 (n : Nat) (F : wq_F) : Option (Nat × wq_F) :=
  od_g (F 0 25 < 1502) <|
  if (F 9 (F 0 25)) = 1 then
    (dk_30 F 14 0 0 0).bind fun y3 =>
    od_g (y3.2 0 25 < 1502) <|
    od_let (18446744073709551616 + y3.2 11 (y3.2 0 25)) fun y8 =>
    (dk_210 y3.2).bind fun y11 =>
    (dk_222 n y11.2 (ev_oL2i y8) y11.1).bind fun y15 =>
    if 0 < (y15.2 0 4) ∧ (y15.2 0 4) < 2147483648 then
      some (0, y15.2)
    else
      (dk_212 y15.2).bind fun y20 =>
      if y20.1 = 0 then
        some (0, y20.2)
      else
        dk_232_64 n n y20.2 0
  else
    (dk_211 F).bind fun y25 =>
    some (y25.1, y25.2)
theorem dkT_232 {d n : Nat} {F : wq_F} (hT : wm_T F) {x : Nat × wq_F} (h : dk_232 n F = some x) : mq (d + 3 + 1) 232 [36893488147419103232] wm_sh F (wkZ wm_T wm_sh x) := by
  have e : ev_ent [36893488147419103232] = [36893488147419103232] := by
    rfl
  refine mq_of (maxL := 4) (rt := (some .boolean)) (code := (ev_un al_mX12_readFunction.2.2.2.2)) (L := [36893488147419103232, 73786976294838206464, 73786976294838206464, 73786976294838206464]) rfl (by rw [e]; exact Nat.le_of_ble_eq_true rfl) (by rw [e]; rfl) ?_
  unfold dk_232 at h
  refine wq_aload_n rfl rfl rfl ?_
  refine wm_getR (v := 36893488147419103241) rfl (by decide) (hT.r 21 8 rfl) ?_
  refine wq_aload_n rfl rfl rfl ?_
  refine wm_getI rfl (by decide) ?_
  obtain ⟨g1, h⟩ := od_gE h
  refine wq_iaload (q := 9) (n := 1502) rfl rfl (by decide) g1 (by decide) ?_
  refine wq_iconst rfl rfl ?_
  refine wq_ic_eq rfl rfl (hT.ai (k := 9) rfl g1) (wm_zlt (by decide)) (fun h2 => ?_) (fun h2 => ?_)
  · replace h := od_pos h h2
    refine wq_aload_n rfl rfl rfl ?_
    refine wq_bipush rfl rfl ?_
    refine wq_iconst rfl rfl ?_
    refine wq_iconst rfl rfl ?_
    refine wq_iconst rfl rfl ?_
    obtain ⟨y3, e4, h⟩ := od_bindE h
    refine wd_virtI (q := 0) (y := y3) (as := [36893488147419103232, 14, 0, 0, 0]) rfl rfl rfl (by decide) (Nat.le_of_ble_eq_true rfl) (Nat.le_of_ble_eq_true rfl) rfl (Nat.le_of_ble_eq_true rfl) rfl (dkT_30 hT (by decide) (wm_zlt (by decide)) (wm_zlt (by decide)) (wm_zlt (by decide)) e4) (fun p5 T6 => ?_)
    refine wq_istore_n rfl p5 (Nat.le_of_ble_eq_true rfl) (Or.inr ⟨_, rfl, rfl⟩) (L' := [36893488147419103232, y3.1, 73786976294838206464, 73786976294838206464]) rfl ?_
    refine wq_aload_n rfl rfl rfl ?_
    refine wq_aload_n rfl rfl rfl ?_
    refine wm_getR (v := 36893488147419103243) rfl (by decide) (T6.r 23 10 rfl) ?_
    refine wq_aload_n rfl rfl rfl ?_
    refine wm_getI rfl (by decide) ?_
    obtain ⟨g7, h⟩ := od_gE h
    refine wq_laload (q := 11) (n := 1502) rfl rfl (by decide) g7 (by decide) ?_
    obtain ⟨y8, e9, h⟩ := od_letE h
    refine wq_top e9.symm ?_
    have p10 : ev_isL y8 = true := wd_ge e9 (wm_al_L (T6.al (k := 11) rfl g7))
    refine wq_l2i rfl p10 ?_
    refine wq_aload_n rfl rfl rfl ?_
    obtain ⟨y11, e12, h⟩ := od_bindE h
    refine wd_virtI (q := 0) (y := y11) (as := [36893488147419103232]) rfl rfl rfl (by decide) (Nat.le_of_ble_eq_true rfl) (Nat.le_of_ble_eq_true rfl) rfl (Nat.le_of_ble_eq_true rfl) rfl (dkT_210 T6 e12) (fun p13 T14 => ?_)
    obtain ⟨y15, e16, h⟩ := od_bindE h
    refine wd_virtN (q := 0) (y := y15) (as := [36893488147419103232, ev_oL2i y8, y11.1]) rfl rfl rfl (by decide) (Nat.le_of_ble_eq_true rfl) (Nat.le_of_ble_eq_true rfl) rfl (Nat.le_of_ble_eq_true rfl) rfl (dkT_222 T14 (Nat.mod_lt _ (by decide)) p13 e16) (fun T18 => ?_)
    refine wq_aload_n rfl rfl rfl ?_
    refine wm_getI rfl (by decide) ?_
    refine wq_if_gt rfl rfl (T18.i 4 rfl) (fun h19 => ?_) (fun h19 => ?_)
    · replace h := od_pos h h19
      refine wq_iconst rfl rfl ?_
      exact wq_iret rfl (wm_zlt (by decide)) (Nat.blt_eq.mpr (by decide)) (wkOZ h T18 (by decide))
    · replace h := od_neg h h19
      refine wq_aload_n rfl rfl rfl ?_
      obtain ⟨y20, e21, h⟩ := od_bindE h
      refine wd_virtZ (q := 0) (y := y20) (as := [36893488147419103232]) rfl rfl rfl (by decide) (Nat.le_of_ble_eq_true rfl) (Nat.le_of_ble_eq_true rfl) rfl (Nat.le_of_ble_eq_true rfl) rfl (dkT_212 T18 e21) (fun p22 T23 => ?_)
      refine wq_if_ne rfl rfl (wm_zlt p22) (fun h24 => ?_) (fun h24 => ?_)
      · replace h := od_neg h h24
        refine wq_iconst rfl rfl ?_
        refine wq_istore_n rfl (wm_zlt (by decide)) (Nat.le_of_ble_eq_true rfl) (Or.inr ⟨_, rfl, (wq_notL p5)⟩) (L' := [36893488147419103232, y3.1, 0, 73786976294838206464]) rfl ?_
        exact dk_232_64T n T23 (by decide) (wq_notL p5) rfl h
      · replace h := od_pos h h24
        refine wq_iconst rfl rfl ?_
        exact wq_iret rfl (wm_zlt (by decide)) (Nat.blt_eq.mpr (by decide)) (wkOZ h T23 (by decide))
  · replace h := od_neg h h2
    refine wq_aload_n rfl rfl rfl ?_
    obtain ⟨y25, e26, h⟩ := od_bindE h
    refine wd_virtZ (q := 0) (y := y25) (as := [36893488147419103232]) rfl rfl rfl (by decide) (Nat.le_of_ble_eq_true rfl) (Nat.le_of_ble_eq_true rfl) rfl (Nat.le_of_ble_eq_true rfl) rfl (dkT_211 hT e26) (fun p27 T28 => ?_)
    exact wq_iret rfl (wm_zlt p27) (Nat.blt_eq.mpr p27) (wkOZ h T28 p27)
/-- X12_know -/
def dk_220 (F : wq_F) (a0 : Nat) (a1 : Nat) : Option (Nat × wq_F) :=
  od_g (F 0 50 < 1600) <|
  od_up F 29 (F 0 50) a0 fun F2 =>
  od_g (F2 0 50 < 1600) <|
  od_up F2 30 (F2 0 50) a1 fun F6 =>
  od_up F6 0 50 (((F6 0 50) + 1) % 4294967296) fun F9 =>
  some (0, F9)
theorem dkT_220 {d : Nat} {F : wq_F} (hT : wm_T F) {a0 : Nat} (ha0 : a0 < 4294967296) {a1 : Nat} (ha1 : a1 < 4294967296) {x : Nat × wq_F} (h : dk_220 F a0 a1 = some x) : mq (d + 0 + 1) 220 [36893488147419103232, a0, a1] wm_sh F (wkN wm_T wm_sh x) := by
  have e : ev_ent [36893488147419103232, a0, a1] = [36893488147419103232, a0, a1] := by
    show 36893488147419103232 :: ev_ent [a0, a1] = _
    rw [wm_entI ha0, wm_entI ha1]
    rfl
  refine mq_of (maxL := 3) (rt := none) (code := (ev_un al_mX12_know.2.2.2.2)) (L := [36893488147419103232, a0, a1]) rfl (by rw [e]; exact Nat.le_of_ble_eq_true rfl) (by rw [e]; rfl) ?_
  unfold dk_220 at h
  refine wq_aload_n rfl rfl rfl ?_
  refine wm_getR (v := 36893488147419103261) rfl (by decide) (hT.r 48 28 rfl) ?_
  refine wq_aload_n rfl rfl rfl ?_
  refine wm_getI rfl (by decide) ?_
  refine wq_iload_n rfl rfl ha0 ?_
  obtain ⟨g1, h⟩ := od_gE h
  obtain ⟨F2, e3, h⟩ := od_upE h
  refine wd_iastore (q := 29) (n := 1600) rfl rfl (by decide) g1 (by decide) ha0 e3 ?_
  have T4 : wm_T F2 := wd_T e3 (hT.ua (k := 29) (kd := 1000) (n := 1600) (i := F 0 50) (v := a0) rfl (by decide) g1 (show a0 < 4294967296 from ha0))
  refine wq_aload_n rfl rfl rfl ?_
  refine wm_getR (v := 36893488147419103262) rfl (by decide) (T4.r 49 29 rfl) ?_
  refine wq_aload_n rfl rfl rfl ?_
  refine wm_getI rfl (by decide) ?_
  refine wq_iload_n rfl rfl ha1 ?_
  obtain ⟨g5, h⟩ := od_gE h
  obtain ⟨F6, e7, h⟩ := od_upE h
  refine wd_iastore (q := 30) (n := 1600) rfl rfl (by decide) g5 (by decide) ha1 e7 ?_
  have T8 : wm_T F6 := wd_T e7 (T4.ua (k := 30) (kd := 1000) (n := 1600) (i := F2 0 50) (v := a1) rfl (by decide) g5 (show a1 < 4294967296 from ha1))
  refine wq_aload_n rfl rfl rfl ?_
  refine wq_dup rfl rfl ?_
  refine wm_getI rfl (by decide) ?_
  refine wq_iconst rfl rfl ?_
  refine wq_iaddZ rfl (T8.i 50 rfl) (wm_zlt (by decide)) (z := ((F6 0 50) + 1) % 4294967296) rfl ?_
  obtain ⟨F9, e10, h⟩ := od_upE h
  refine wmE_put rfl (by decide) (wq_I (Nat.mod_lt _ (by decide))) e10 ?_
  have T11 : wm_T F9 := wd_T e10 (T8.uf (f := 50) (c := 0) (v := ((F6 0 50) + 1) % 4294967296) rfl (show ((F6 0 50) + 1) % 4294967296 < 4294967296 from (Nat.mod_lt _ (by decide))))
  exact wq_ret rfl (wkON h T11)
def dk_231_63b (n : Nat) (r63 : wq_F → Nat → Nat → Nat → Nat → Option (Nat × wq_F)) (F : wq_F) (v2 : Nat) (v3 : Nat) (v4 : Nat) (v6 : Nat) : Option (Nat × wq_F) :=
  if ev_s v6 < ev_s v3 then
    od_let ((v2 + (ev_oMul 2 v6)) % 4294967296) fun y2 =>
    od_g (y2 < 1502) <|
    od_let (18446744073709551616 + F 11 y2) fun y6 =>
    (dk_220 F (ev_oL2i y6) ((v4 + v6) % 4294967296)).bind fun y9 =>
    od_let ((v6 + 1) % 4294967296) fun y13 =>
    r63 y9.2 v2 v3 v4 y13
  else
    some (1, F)
theorem dk_231_63bT {d n : Nat} {r63 : wq_F → Nat → Nat → Nat → Nat → Option (Nat × wq_F)} (hr63 : ∀ ⦃u1 : Nat⦄ ⦃u5 : Nat⦄ ⦃F : wq_F⦄ (hT : wm_T F) ⦃v2 : Nat⦄ (hv2 : v2 < 4294967296) ⦃v3 : Nat⦄ (hv3 : v3 < 4294967296) ⦃v4 : Nat⦄ (hv4 : v4 < 4294967296) ⦃v6 : Nat⦄ (hv6 : v6 < 4294967296) (hu1 : ev_isL u1 = false) (hu5 : ev_isL u5 = false) ⦃x : Nat × wq_F⦄ (h : r63 F v2 v3 v4 v6 = some x), wq (wq_cf (d + 1)) (ev_un al_mX12_localRow.2.2.2.2) (some .boolean) 63 [36893488147419103232, u1, v2, v3, v4, u5, v6] [] wm_sh F 0 0 (wkZ wm_T wm_sh x)) : ∀ ⦃u1 : Nat⦄ ⦃u5 : Nat⦄ ⦃F : wq_F⦄ (hT : wm_T F) ⦃v2 : Nat⦄ (hv2 : v2 < 4294967296) ⦃v3 : Nat⦄ (hv3 : v3 < 4294967296) ⦃v4 : Nat⦄ (hv4 : v4 < 4294967296) ⦃v6 : Nat⦄ (hv6 : v6 < 4294967296) (hu1 : ev_isL u1 = false) (hu5 : ev_isL u5 = false) ⦃x : Nat × wq_F⦄ (h : dk_231_63b n r63 F v2 v3 v4 v6 = some x), wq (wq_cf (d + 1)) (ev_un al_mX12_localRow.2.2.2.2) (some .boolean) 63 [36893488147419103232, u1, v2, v3, v4, u5, v6] [] wm_sh F 0 0 (wkZ wm_T wm_sh x) := by
  intro u1 u5 F hT v2 hv2 v3 hv3 v4 hv4 v6 hv6 hu1 hu5 x h
  unfold dk_231_63b at h
  refine wq_iload rfl rfl hv6 ?_
  refine wq_iload_n rfl rfl hv3 ?_
  refine wq_ic_ge rfl rfl hv6 hv3 (fun h1 => ?_) (fun h1 => ?_)
  · replace h := od_neg h (Nat.not_lt.mpr h1)
    refine wq_iconst rfl rfl ?_
    exact wq_iret rfl (wm_zlt (by decide)) (Nat.blt_eq.mpr (by decide)) (wkOZ h hT (by decide))
  · replace h := od_pos h h1
    refine wq_aload_n rfl rfl rfl ?_
    refine wq_aload_n rfl rfl rfl ?_
    refine wm_getR (v := 36893488147419103243) rfl (by decide) (hT.r 23 10 rfl) ?_
    refine wq_iload_n rfl rfl hv2 ?_
    refine wq_iconst rfl rfl ?_
    refine wq_iload rfl rfl hv6 ?_
    refine wq_imul rfl (by decide) hv6 ?_
    refine wq_iaddZ rfl hv2 (Nat.mod_lt _ (by decide)) (z := (v2 + (ev_oMul 2 v6)) % 4294967296) rfl ?_
    obtain ⟨y2, e3, h⟩ := od_letE h
    refine wq_top e3.symm ?_
    have p4 : y2 < 4294967296 := wd_lt e3 (Nat.mod_lt _ (by decide))
    obtain ⟨g5, h⟩ := od_gE h
    refine wq_laload (q := 11) (n := 1502) rfl rfl (by decide) g5 (by decide) ?_
    obtain ⟨y6, e7, h⟩ := od_letE h
    refine wq_top e7.symm ?_
    have p8 : ev_isL y6 = true := wd_ge e7 (wm_al_L (hT.al (k := 11) rfl g5))
    refine wq_l2i rfl p8 ?_
    refine wq_iload rfl rfl hv4 ?_
    refine wq_iload rfl rfl hv6 ?_
    refine wq_iaddZ rfl hv4 hv6 (z := (v4 + v6) % 4294967296) rfl ?_
    obtain ⟨y9, e10, h⟩ := od_bindE h
    refine wd_virtN (q := 0) (y := y9) (as := [36893488147419103232, ev_oL2i y6, (v4 + v6) % 4294967296]) rfl rfl rfl (by decide) (Nat.le_of_ble_eq_true rfl) (Nat.le_of_ble_eq_true rfl) rfl (Nat.le_of_ble_eq_true rfl) rfl (dkT_220 hT (Nat.mod_lt _ (by decide)) (Nat.mod_lt _ (by decide)) e10) (fun T12 => ?_)
    obtain ⟨y13, e14, h⟩ := od_letE h
    have p15 : y13 < 4294967296 := wd_lt e14 (Nat.mod_lt _ (by decide))
    refine wq_iincZ rfl rfl hv6 (Or.inr ⟨_, rfl, hu5⟩) rfl (z := y13) e14.symm (L' := [36893488147419103232, u1, v2, v3, v4, u5, y13]) rfl ?_
    refine wq_goto rfl rfl ?_
    exact hr63 T12 hv2 hv3 hv4 p15 hu1 hu5 h
def dk_231_63 (n : Nat) : Nat → wq_F → Nat → Nat → Nat → Nat → Option (Nat × wq_F)
  | 0 => fun _ _ _ _ _ => none
  | g + 1 => dk_231_63b n (dk_231_63 n g)
theorem dk_231_63T {d n : Nat} : ∀ g : Nat, ∀ ⦃u1 : Nat⦄ ⦃u5 : Nat⦄ ⦃F : wq_F⦄ (hT : wm_T F) ⦃v2 : Nat⦄ (hv2 : v2 < 4294967296) ⦃v3 : Nat⦄ (hv3 : v3 < 4294967296) ⦃v4 : Nat⦄ (hv4 : v4 < 4294967296) ⦃v6 : Nat⦄ (hv6 : v6 < 4294967296) (hu1 : ev_isL u1 = false) (hu5 : ev_isL u5 = false) ⦃x : Nat × wq_F⦄ (h : dk_231_63 n g F v2 v3 v4 v6 = some x), wq (wq_cf (d + 1)) (ev_un al_mX12_localRow.2.2.2.2) (some .boolean) 63 [36893488147419103232, u1, v2, v3, v4, u5, v6] [] wm_sh F 0 0 (wkZ wm_T wm_sh x)
  | 0 => by
    intro u1 u5 F hT v2 hv2 v3 hv3 v4 hv4 v6 hv6 hu1 hu5 x h
    cases h
  | g + 1 => dk_231_63bT (dk_231_63T g)
def dk_231_34b (n : Nat) (r34 : wq_F → Nat → Nat → Nat → Nat → Option (Nat × wq_F)) (F : wq_F) (v2 : Nat) (v3 : Nat) (v4 : Nat) (v6 : Nat) : Option (Nat × wq_F) :=
  if 2147483648 ≤ v6 then
    dk_231_63 n n F v2 v3 v4 0
  else
    (dk_30 F 19 ((v4 + v6) % 4294967296) 0 0).bind fun y2 =>
    od_let ((v6 + 4294967295) % 4294967296) fun y6 =>
    r34 y2.2 v2 v3 v4 y6
theorem dk_231_34bT {d n : Nat} {r34 : wq_F → Nat → Nat → Nat → Nat → Option (Nat × wq_F)} (hr34 : ∀ ⦃u1 : Nat⦄ ⦃u5 : Nat⦄ ⦃F : wq_F⦄ (hT : wm_T F) ⦃v2 : Nat⦄ (hv2 : v2 < 4294967296) ⦃v3 : Nat⦄ (hv3 : v3 < 4294967296) ⦃v4 : Nat⦄ (hv4 : v4 < 4294967296) ⦃v6 : Nat⦄ (hv6 : v6 < 4294967296) (hu1 : ev_isL u1 = false) (hu5 : ev_isL u5 = false) ⦃x : Nat × wq_F⦄ (h : r34 F v2 v3 v4 v6 = some x), wq (wq_cf (d + 1)) (ev_un al_mX12_localRow.2.2.2.2) (some .boolean) 34 [36893488147419103232, u1, v2, v3, v4, u5, v6] [] wm_sh F 0 0 (wkZ wm_T wm_sh x)) : ∀ ⦃u1 : Nat⦄ ⦃u5 : Nat⦄ ⦃F : wq_F⦄ (hT : wm_T F) ⦃v2 : Nat⦄ (hv2 : v2 < 4294967296) ⦃v3 : Nat⦄ (hv3 : v3 < 4294967296) ⦃v4 : Nat⦄ (hv4 : v4 < 4294967296) ⦃v6 : Nat⦄ (hv6 : v6 < 4294967296) (hu1 : ev_isL u1 = false) (hu5 : ev_isL u5 = false) ⦃x : Nat × wq_F⦄ (h : dk_231_34b n r34 F v2 v3 v4 v6 = some x), wq (wq_cf (d + 1)) (ev_un al_mX12_localRow.2.2.2.2) (some .boolean) 34 [36893488147419103232, u1, v2, v3, v4, u5, v6] [] wm_sh F 0 0 (wkZ wm_T wm_sh x) := by
  intro u1 u5 F hT v2 hv2 v3 hv3 v4 hv4 v6 hv6 hu1 hu5 x h
  unfold dk_231_34b at h
  refine wq_iload rfl rfl hv6 ?_
  refine wq_if_lt rfl rfl hv6 (fun h1 => ?_) (fun h1 => ?_)
  · replace h := od_pos h h1
    refine wq_iconst rfl rfl ?_
    refine wq_istore rfl (wm_zlt (by decide)) (Nat.le_of_ble_eq_true rfl) (Or.inr ⟨_, rfl, hu5⟩) (L' := [36893488147419103232, u1, v2, v3, v4, u5, 0]) rfl ?_
    exact dk_231_63T n hT hv2 hv3 hv4 (wm_zlt (by decide)) hu1 hu5 h
  · replace h := od_neg h (Nat.not_le.mpr h1)
    refine wq_aload_n rfl rfl rfl ?_
    refine wq_bipush rfl rfl ?_
    refine wq_iload rfl rfl hv4 ?_
    refine wq_iload rfl rfl hv6 ?_
    refine wq_iaddZ rfl hv4 hv6 (z := (v4 + v6) % 4294967296) rfl ?_
    refine wq_iconst rfl rfl ?_
    refine wq_iconst rfl rfl ?_
    obtain ⟨y2, e3, h⟩ := od_bindE h
    refine wd_virtI (q := 0) (y := y2) (as := [36893488147419103232, 19, (v4 + v6) % 4294967296, 0, 0]) rfl rfl rfl (by decide) (Nat.le_of_ble_eq_true rfl) (Nat.le_of_ble_eq_true rfl) rfl (Nat.le_of_ble_eq_true rfl) rfl (dkT_30 hT (by decide) (Nat.mod_lt _ (by decide)) (wm_zlt (by decide)) (wm_zlt (by decide)) e3) (fun p4 T5 => ?_)
    refine wq_istore rfl p4 (Nat.le_of_ble_eq_true rfl) (Or.inr ⟨_, rfl, (wq_notL hv4)⟩) (L' := [36893488147419103232, u1, v2, v3, v4, y2.1, v6]) rfl ?_
    obtain ⟨y6, e7, h⟩ := od_letE h
    have p8 : y6 < 4294967296 := wd_lt e7 (Nat.mod_lt _ (by decide))
    refine wq_iincZ rfl rfl hv6 (Or.inr ⟨_, rfl, (wq_notL p4)⟩) rfl (z := y6) e7.symm (L' := [36893488147419103232, u1, v2, v3, v4, y2.1, y6]) rfl ?_
    refine wq_goto rfl rfl ?_
    exact hr34 T5 hv2 hv3 hv4 p8 hu1 (wq_notL p4) h
def dk_231_34 (n : Nat) : Nat → wq_F → Nat → Nat → Nat → Nat → Option (Nat × wq_F)
  | 0 => fun _ _ _ _ _ => none
  | g + 1 => dk_231_34b n (dk_231_34 n g)
theorem dk_231_34T {d n : Nat} : ∀ g : Nat, ∀ ⦃u1 : Nat⦄ ⦃u5 : Nat⦄ ⦃F : wq_F⦄ (hT : wm_T F) ⦃v2 : Nat⦄ (hv2 : v2 < 4294967296) ⦃v3 : Nat⦄ (hv3 : v3 < 4294967296) ⦃v4 : Nat⦄ (hv4 : v4 < 4294967296) ⦃v6 : Nat⦄ (hv6 : v6 < 4294967296) (hu1 : ev_isL u1 = false) (hu5 : ev_isL u5 = false) ⦃x : Nat × wq_F⦄ (h : dk_231_34 n g F v2 v3 v4 v6 = some x), wq (wq_cf (d + 1)) (ev_un al_mX12_localRow.2.2.2.2) (some .boolean) 34 [36893488147419103232, u1, v2, v3, v4, u5, v6] [] wm_sh F 0 0 (wkZ wm_T wm_sh x)
  | 0 => by
    intro u1 u5 F hT v2 hv2 v3 hv3 v4 hv4 v6 hv6 hu1 hu5 x h
    cases h
  | g + 1 => dk_231_34bT (dk_231_34T g)
def dk_231_18 (n : Nat) (F : wq_F) (v2 : Nat) (v3 : Nat) (v4 : Nat) : Option (Nat × wq_F) :=
  (dk_30 F 18 v3 0 0).bind fun y1 =>
  od_let ((v3 + (4294967296 - 1)) % 4294967296) fun y5 =>
  dk_231_34 n n y1.2 v2 v3 v4 y5
theorem dk_231_18T {d n : Nat} : ∀ ⦃u1 : Nat⦄ ⦃u5 : Nat⦄ ⦃F : wq_F⦄ (hT : wm_T F) ⦃v2 : Nat⦄ (hv2 : v2 < 4294967296) ⦃v3 : Nat⦄ (hv3 : v3 < 4294967296) ⦃v4 : Nat⦄ (hv4 : v4 < 4294967296) (hu1 : ev_isL u1 = false) (hu5 : ev_isL u5 = false) ⦃x : Nat × wq_F⦄ (h : dk_231_18 n F v2 v3 v4 = some x), wq (wq_cf (d + 1)) (ev_un al_mX12_localRow.2.2.2.2) (some .boolean) 18 [36893488147419103232, u1, v2, v3, v4, u5, 73786976294838206464] [] wm_sh F 0 0 (wkZ wm_T wm_sh x) := by
  intro u1 u5 F hT v2 hv2 v3 hv3 v4 hv4 hu1 hu5 x h
  unfold dk_231_18 at h
  refine wq_aload_n rfl rfl rfl ?_
  refine wq_bipush rfl rfl ?_
  refine wq_iload_n rfl rfl hv3 ?_
  refine wq_iconst rfl rfl ?_
  refine wq_iconst rfl rfl ?_
  obtain ⟨y1, e2, h⟩ := od_bindE h
  refine wd_virtI (q := 0) (y := y1) (as := [36893488147419103232, 18, v3, 0, 0]) rfl rfl rfl (by decide) (Nat.le_of_ble_eq_true rfl) (Nat.le_of_ble_eq_true rfl) rfl (Nat.le_of_ble_eq_true rfl) rfl (dkT_30 hT (by decide) hv3 (wm_zlt (by decide)) (wm_zlt (by decide)) e2) (fun p3 T4 => ?_)
  refine wq_istore rfl p3 (Nat.le_of_ble_eq_true rfl) (Or.inr ⟨_, rfl, (wq_notL hv4)⟩) (L' := [36893488147419103232, u1, v2, v3, v4, y1.1, 73786976294838206464]) rfl ?_
  refine wq_iload_n rfl rfl hv3 ?_
  refine wq_iconst rfl rfl ?_
  refine wq_isubZ rfl hv3 (wm_zlt (by decide)) (z := (v3 + (4294967296 - 1)) % 4294967296) rfl ?_
  obtain ⟨y5, e6, h⟩ := od_letE h
  refine wq_top e6.symm ?_
  have p7 : y5 < 4294967296 := wd_lt e6 (Nat.mod_lt _ (by decide))
  refine wq_istore rfl p7 (Nat.le_of_ble_eq_true rfl) (Or.inr ⟨_, rfl, (wq_notL p3)⟩) (L' := [36893488147419103232, u1, v2, v3, v4, y1.1, y5]) rfl ?_
  exact dk_231_34T n T4 hv2 hv3 hv4 p7 hu1 (wq_notL p3) h
/-- X12_localRow -/
def dk_231 (n : Nat) (F : wq_F) (a0 : Nat) (a1 : Nat) (a2 : Nat) (a3 : Nat) : Option (Nat × wq_F) :=
  if 0 < a0 ∧ a0 < 2147483648 then
    (dk_30 F 17 0 0 a0).bind fun y2 =>
    dk_231_18 n y2.2 a1 a2 a3
  else
    dk_231_18 n F a1 a2 a3
theorem dkT_231 {d n : Nat} {F : wq_F} (hT : wm_T F) {a0 : Nat} (ha0 : a0 < 4294967296) {a1 : Nat} (ha1 : a1 < 4294967296) {a2 : Nat} (ha2 : a2 < 4294967296) {a3 : Nat} (ha3 : a3 < 4294967296) {x : Nat × wq_F} (h : dk_231 n F a0 a1 a2 a3 = some x) : mq (d + 1 + 1) 231 [36893488147419103232, a0, a1, a2, a3] wm_sh F (wkZ wm_T wm_sh x) := by
  have e : ev_ent [36893488147419103232, a0, a1, a2, a3] = [36893488147419103232, a0, a1, a2, a3] := by
    show 36893488147419103232 :: ev_ent [a0, a1, a2, a3] = _
    rw [wm_entI ha0, wm_entI ha1, wm_entI ha2, wm_entI ha3]
    rfl
  refine mq_of (maxL := 7) (rt := (some .boolean)) (code := (ev_un al_mX12_localRow.2.2.2.2)) (L := [36893488147419103232, a0, a1, a2, a3, 73786976294838206464, 73786976294838206464]) rfl (by rw [e]; exact Nat.le_of_ble_eq_true rfl) (by rw [e]; rfl) ?_
  unfold dk_231 at h
  refine wq_iconst rfl rfl ?_
  refine wq_istore rfl (wm_zlt (by decide)) (Nat.le_of_ble_eq_true rfl) (Or.inr ⟨_, rfl, (wq_notL ha3)⟩) (L' := [36893488147419103232, a0, a1, a2, a3, 0, 73786976294838206464]) rfl ?_
  refine wq_iload_n rfl rfl ha0 ?_
  refine wq_if_le rfl rfl ha0 (fun h1 => ?_) (fun h1 => ?_)
  · replace h := od_neg h h1
    exact dk_231_18T hT ha1 ha2 ha3 (wq_notL ha0) (wq_notL (wm_zlt (by decide))) h
  · replace h := od_pos h h1
    refine wq_aload_n rfl rfl rfl ?_
    refine wq_bipush rfl rfl ?_
    refine wq_iconst rfl rfl ?_
    refine wq_iconst rfl rfl ?_
    refine wq_iload_n rfl rfl ha0 ?_
    obtain ⟨y2, e3, h⟩ := od_bindE h
    refine wd_virtI (q := 0) (y := y2) (as := [36893488147419103232, 17, 0, 0, a0]) rfl rfl rfl (by decide) (Nat.le_of_ble_eq_true rfl) (Nat.le_of_ble_eq_true rfl) rfl (Nat.le_of_ble_eq_true rfl) rfl (dkT_30 hT (by decide) (wm_zlt (by decide)) (wm_zlt (by decide)) ha0 e3) (fun p4 T5 => ?_)
    refine wq_istore rfl p4 (Nat.le_of_ble_eq_true rfl) (Or.inr ⟨_, rfl, (wq_notL ha3)⟩) (L' := [36893488147419103232, a0, a1, a2, a3, y2.1, 73786976294838206464]) rfl ?_
    exact dk_231_18T T5 ha1 ha2 ha3 (wq_notL ha0) (wq_notL p4) h
def dk_230_136b (n : Nat) (r136 : wq_F → Nat → Nat → Nat → Nat → Option (Nat × wq_F)) (F : wq_F) (v1 : Nat) (v2 : Nat) (v3 : Nat) (v4 : Nat) : Option (Nat × wq_F) :=
  if v4 = 0 then
    (dk_30 F 14 0 0 0).bind fun y2 =>
    (dk_36 y2.2 61).bind fun y6 =>
    if y6.1 = 0 then
      (dk_231 n y6.2 0 v1 v2 v3).bind fun y44 =>
      some (y44.1, y44.2)
    else
      (dk_215 y6.2).bind fun y11 =>
      (dk_212 y11.2).bind fun y15 =>
      if y15.1 = 0 then
        some (0, y15.2)
      else
        (dk_217 y15.2).bind fun y20 =>
        if y20.1 = 0 then
          (dk_211 y20.2).bind fun y40 =>
          some (y40.1, y40.2)
        else
          od_let (((ev_oMul v2 100) + v3) % 4294967296) fun y25 =>
          (dk_31 y20.2 39 y11.1 v1 y25).bind fun y28 =>
          (dk_31 y28.2 14 0 0 0).bind fun y32 =>
          (dk_31 y32.2 3 0 0 0).bind fun y36 =>
          some (1, y36.2)
  else
    od_g (F 0 25 < 1502) <|
    if (F 9 (F 0 25)) = 1 then
      (dk_210 F).bind fun y50 =>
      (dk_219 y50.2 y50.1).bind fun y54 =>
      if 2147483648 ≤ y54.1 then
        some (0, y54.2)
      else
        (dk_212 y54.2).bind fun y59 =>
        if y59.1 = 0 then
          some (0, y59.2)
        else
          od_let ((v2 + 1) % 4294967296) fun y64 =>
          (dk_36 y59.2 44).bind fun y67 =>
          if y67.1 = 0 then
            r136 y67.2 v1 y64 v3 y67.1
          else
            (dk_212 y67.2).bind fun y72 =>
            if y72.1 = 0 then
              some (0, y72.2)
            else
              r136 y72.2 v1 y64 v3 y67.1
    else
      (dk_211 F).bind fun y77 =>
      some (y77.1, y77.2)
theorem dk_230_136bT {d n : Nat} {r136 : wq_F → Nat → Nat → Nat → Nat → Option (Nat × wq_F)} (hr136 : ∀ ⦃F : wq_F⦄ (hT : wm_T F) ⦃v1 : Nat⦄ (hv1 : v1 < 4294967296) ⦃v2 : Nat⦄ (hv2 : v2 < 4294967296) ⦃v3 : Nat⦄ (hv3 : v3 < 4294967296) ⦃v4 : Nat⦄ (hv4 : v4 < 2) ⦃x : Nat × wq_F⦄ (h : r136 F v1 v2 v3 v4 = some x), wq (wq_cf (d + 2)) (ev_un al_mX12_readLocal.2.2.2.2) (some .boolean) 136 [36893488147419103232, v1, v2, v3, v4, 73786976294838206464, 73786976294838206464] [] wm_sh F 0 0 (wkZ wm_T wm_sh x)) : ∀ ⦃F : wq_F⦄ (hT : wm_T F) ⦃v1 : Nat⦄ (hv1 : v1 < 4294967296) ⦃v2 : Nat⦄ (hv2 : v2 < 4294967296) ⦃v3 : Nat⦄ (hv3 : v3 < 4294967296) ⦃v4 : Nat⦄ (hv4 : v4 < 2) ⦃x : Nat × wq_F⦄ (h : dk_230_136b n r136 F v1 v2 v3 v4 = some x), wq (wq_cf (d + 2)) (ev_un al_mX12_readLocal.2.2.2.2) (some .boolean) 136 [36893488147419103232, v1, v2, v3, v4, 73786976294838206464, 73786976294838206464] [] wm_sh F 0 0 (wkZ wm_T wm_sh x) := by
  intro F hT v1 hv1 v2 hv2 v3 hv3 v4 hv4 x h
  unfold dk_230_136b at h
  refine wq_iload rfl rfl (wm_zlt hv4) ?_
  refine wq_if_eq rfl rfl (wm_zlt hv4) (fun h1 => ?_) (fun h1 => ?_)
  · replace h := od_pos h h1
    refine wq_aload_n rfl rfl rfl ?_
    refine wq_bipush rfl rfl ?_
    refine wq_iconst rfl rfl ?_
    refine wq_iconst rfl rfl ?_
    refine wq_iconst rfl rfl ?_
    obtain ⟨y2, e3, h⟩ := od_bindE h
    refine wd_virtI (q := 0) (y := y2) (as := [36893488147419103232, 14, 0, 0, 0]) rfl rfl rfl (by decide) (Nat.le_of_ble_eq_true rfl) (Nat.le_of_ble_eq_true rfl) rfl (Nat.le_of_ble_eq_true rfl) rfl (dkT_30 hT (by decide) (wm_zlt (by decide)) (wm_zlt (by decide)) (wm_zlt (by decide)) e3) (fun p4 T5 => ?_)
    refine wq_istore rfl p4 (Nat.le_of_ble_eq_true rfl) (Or.inr ⟨_, rfl, (wq_notL (wm_zlt hv4))⟩) (L' := [36893488147419103232, v1, v2, v3, v4, y2.1, 73786976294838206464]) rfl ?_
    refine wq_aload_n rfl rfl rfl ?_
    refine wq_bipush rfl rfl ?_
    obtain ⟨y6, e7, h⟩ := od_bindE h
    refine wd_virtZ (q := 0) (y := y6) (as := [36893488147419103232, 61]) rfl rfl rfl (by decide) (Nat.le_of_ble_eq_true rfl) (Nat.le_of_ble_eq_true rfl) rfl (Nat.le_of_ble_eq_true rfl) rfl (dkT_36 T5 (by decide) e7) (fun p8 T9 => ?_)
    refine wq_if_ne rfl rfl (wm_zlt p8) (fun h10 => ?_) (fun h10 => ?_)
    · replace h := od_neg h h10
      refine wq_aload_n rfl rfl rfl ?_
      obtain ⟨y11, e12, h⟩ := od_bindE h
      refine wd_virtI (q := 0) (y := y11) (as := [36893488147419103232]) rfl rfl rfl (by decide) (Nat.le_of_ble_eq_true rfl) (Nat.le_of_ble_eq_true rfl) rfl (Nat.le_of_ble_eq_true rfl) rfl (dkT_215 T9 e12) (fun p13 T14 => ?_)
      refine wq_istore rfl p13 (Nat.le_of_ble_eq_true rfl) (Or.inr ⟨_, rfl, (wq_notL p4)⟩) (L' := [36893488147419103232, v1, v2, v3, v4, y2.1, y11.1]) rfl ?_
      refine wq_aload_n rfl rfl rfl ?_
      obtain ⟨y15, e16, h⟩ := od_bindE h
      refine wd_virtZ (q := 0) (y := y15) (as := [36893488147419103232]) rfl rfl rfl (by decide) (Nat.le_of_ble_eq_true rfl) (Nat.le_of_ble_eq_true rfl) rfl (Nat.le_of_ble_eq_true rfl) rfl (dkT_212 T14 e16) (fun p17 T18 => ?_)
      refine wq_if_ne rfl rfl (wm_zlt p17) (fun h19 => ?_) (fun h19 => ?_)
      · replace h := od_neg h h19
        refine wq_aload_n rfl rfl rfl ?_
        obtain ⟨y20, e21, h⟩ := od_bindE h
        refine wd_virtZ (q := 0) (y := y20) (as := [36893488147419103232]) rfl rfl rfl (by decide) (Nat.le_of_ble_eq_true rfl) (Nat.le_of_ble_eq_true rfl) rfl (Nat.le_of_ble_eq_true rfl) rfl (dkT_217 T18 e21) (fun p22 T23 => ?_)
        refine wq_if_ne rfl rfl (wm_zlt p22) (fun h24 => ?_) (fun h24 => ?_)
        · replace h := od_neg h h24
          refine wq_aload_n rfl rfl rfl ?_
          refine wq_bipush rfl rfl ?_
          refine wq_iload rfl rfl p13 ?_
          refine wq_iload_n rfl rfl hv1 ?_
          refine wq_iload_n rfl rfl hv2 ?_
          refine wq_bipush rfl rfl ?_
          refine wq_imul rfl hv2 (by decide) ?_
          refine wq_iload_n rfl rfl hv3 ?_
          refine wq_iaddZ rfl (Nat.mod_lt _ (by decide)) hv3 (z := ((ev_oMul v2 100) + v3) % 4294967296) rfl ?_
          obtain ⟨y25, e26, h⟩ := od_letE h
          refine wq_top e26.symm ?_
          have p27 : y25 < 4294967296 := wd_lt e26 (Nat.mod_lt _ (by decide))
          obtain ⟨y28, e29, h⟩ := od_bindE h
          refine wd_virtN (q := 0) (y := y28) (as := [36893488147419103232, 39, y11.1, v1, y25]) rfl rfl rfl (by decide) (Nat.le_of_ble_eq_true rfl) (Nat.le_of_ble_eq_true rfl) rfl (Nat.le_of_ble_eq_true rfl) rfl (dkT_31 T23 (by decide) p13 hv1 p27 e29) (fun T31 => ?_)
          refine wq_aload_n rfl rfl rfl ?_
          refine wq_bipush rfl rfl ?_
          refine wq_iconst rfl rfl ?_
          refine wq_iconst rfl rfl ?_
          refine wq_iconst rfl rfl ?_
          obtain ⟨y32, e33, h⟩ := od_bindE h
          refine wd_virtN (q := 0) (y := y32) (as := [36893488147419103232, 14, 0, 0, 0]) rfl rfl rfl (by decide) (Nat.le_of_ble_eq_true rfl) (Nat.le_of_ble_eq_true rfl) rfl (Nat.le_of_ble_eq_true rfl) rfl (dkT_31 T31 (by decide) (wm_zlt (by decide)) (wm_zlt (by decide)) (wm_zlt (by decide)) e33) (fun T35 => ?_)
          refine wq_aload_n rfl rfl rfl ?_
          refine wq_iconst rfl rfl ?_
          refine wq_iconst rfl rfl ?_
          refine wq_iconst rfl rfl ?_
          refine wq_iconst rfl rfl ?_
          obtain ⟨y36, e37, h⟩ := od_bindE h
          refine wd_virtN (q := 0) (y := y36) (as := [36893488147419103232, 3, 0, 0, 0]) rfl rfl rfl (by decide) (Nat.le_of_ble_eq_true rfl) (Nat.le_of_ble_eq_true rfl) rfl (Nat.le_of_ble_eq_true rfl) rfl (dkT_31 T35 (by decide) (wm_zlt (by decide)) (wm_zlt (by decide)) (wm_zlt (by decide)) e37) (fun T39 => ?_)
          refine wq_iconst rfl rfl ?_
          exact wq_iret rfl (wm_zlt (by decide)) (Nat.blt_eq.mpr (by decide)) (wkOZ h T39 (by decide))
        · replace h := od_pos h h24
          refine wq_aload_n rfl rfl rfl ?_
          obtain ⟨y40, e41, h⟩ := od_bindE h
          refine wd_virtZ (q := 0) (y := y40) (as := [36893488147419103232]) rfl rfl rfl (by decide) (Nat.le_of_ble_eq_true rfl) (Nat.le_of_ble_eq_true rfl) rfl (Nat.le_of_ble_eq_true rfl) rfl (dkT_211 T23 e41) (fun p42 T43 => ?_)
          exact wq_iret rfl (wm_zlt p42) (Nat.blt_eq.mpr p42) (wkOZ h T43 p42)
      · replace h := od_pos h h19
        refine wq_iconst rfl rfl ?_
        exact wq_iret rfl (wm_zlt (by decide)) (Nat.blt_eq.mpr (by decide)) (wkOZ h T18 (by decide))
    · replace h := od_pos h h10
      refine wq_aload_n rfl rfl rfl ?_
      refine wq_iconst rfl rfl ?_
      refine wq_iload_n rfl rfl hv1 ?_
      refine wq_iload_n rfl rfl hv2 ?_
      refine wq_iload_n rfl rfl hv3 ?_
      obtain ⟨y44, e45, h⟩ := od_bindE h
      refine wd_virtZ (q := 0) (y := y44) (as := [36893488147419103232, 0, v1, v2, v3]) rfl rfl rfl (by decide) (Nat.le_of_ble_eq_true rfl) (Nat.le_of_ble_eq_true rfl) rfl (Nat.le_of_ble_eq_true rfl) rfl (dkT_231 T9 (wm_zlt (by decide)) hv1 hv2 hv3 e45) (fun p46 T47 => ?_)
      exact wq_iret rfl (wm_zlt p46) (Nat.blt_eq.mpr p46) (wkOZ h T47 p46)
  · replace h := od_neg h h1
    refine wq_aload_n rfl rfl rfl ?_
    refine wm_getR (v := 36893488147419103241) rfl (by decide) (hT.r 21 8 rfl) ?_
    refine wq_aload_n rfl rfl rfl ?_
    refine wm_getI rfl (by decide) ?_
    obtain ⟨g48, h⟩ := od_gE h
    refine wq_iaload (q := 9) (n := 1502) rfl rfl (by decide) g48 (by decide) ?_
    refine wq_iconst rfl rfl ?_
    refine wq_ic_eq rfl rfl (hT.ai (k := 9) rfl g48) (wm_zlt (by decide)) (fun h49 => ?_) (fun h49 => ?_)
    · replace h := od_pos h h49
      refine wq_aload_n rfl rfl rfl ?_
      refine wq_aload_n rfl rfl rfl ?_
      obtain ⟨y50, e51, h⟩ := od_bindE h
      refine wd_virtI (q := 0) (y := y50) (as := [36893488147419103232]) rfl rfl rfl (by decide) (Nat.le_of_ble_eq_true rfl) (Nat.le_of_ble_eq_true rfl) rfl (Nat.le_of_ble_eq_true rfl) rfl (dkT_210 hT e51) (fun p52 T53 => ?_)
      obtain ⟨y54, e55, h⟩ := od_bindE h
      refine wd_virtI (q := 0) (y := y54) (as := [36893488147419103232, y50.1]) rfl rfl rfl (by decide) (Nat.le_of_ble_eq_true rfl) (Nat.le_of_ble_eq_true rfl) rfl (Nat.le_of_ble_eq_true rfl) rfl (dkT_219 T53 p52 e55) (fun p56 T57 => ?_)
      refine wq_if_lt rfl rfl p56 (fun h58 => ?_) (fun h58 => ?_)
      · replace h := od_pos h h58
        refine wq_iconst rfl rfl ?_
        exact wq_iret rfl (wm_zlt (by decide)) (Nat.blt_eq.mpr (by decide)) (wkOZ h T57 (by decide))
      · replace h := od_neg h (Nat.not_le.mpr h58)
        refine wq_aload_n rfl rfl rfl ?_
        obtain ⟨y59, e60, h⟩ := od_bindE h
        refine wd_virtZ (q := 0) (y := y59) (as := [36893488147419103232]) rfl rfl rfl (by decide) (Nat.le_of_ble_eq_true rfl) (Nat.le_of_ble_eq_true rfl) rfl (Nat.le_of_ble_eq_true rfl) rfl (dkT_212 T57 e60) (fun p61 T62 => ?_)
        refine wq_if_ne rfl rfl (wm_zlt p61) (fun h63 => ?_) (fun h63 => ?_)
        · replace h := od_neg h h63
          obtain ⟨y64, e65, h⟩ := od_letE h
          have p66 : y64 < 4294967296 := wd_lt e65 (Nat.mod_lt _ (by decide))
          refine wq_iincZ rfl rfl hv2 (Or.inr ⟨_, rfl, (wq_notL hv1)⟩) rfl (z := y64) e65.symm (L' := [36893488147419103232, v1, y64, v3, v4, 73786976294838206464, 73786976294838206464]) rfl ?_
          refine wq_aload_n rfl rfl rfl ?_
          refine wq_bipush rfl rfl ?_
          obtain ⟨y67, e68, h⟩ := od_bindE h
          refine wd_virtZ (q := 0) (y := y67) (as := [36893488147419103232, 44]) rfl rfl rfl (by decide) (Nat.le_of_ble_eq_true rfl) (Nat.le_of_ble_eq_true rfl) rfl (Nat.le_of_ble_eq_true rfl) rfl (dkT_36 T62 (by decide) e68) (fun p69 T70 => ?_)
          refine wq_istore rfl (wm_zlt p69) (Nat.le_of_ble_eq_true rfl) (Or.inr ⟨_, rfl, (wq_notL hv3)⟩) (L' := [36893488147419103232, v1, y64, v3, y67.1, 73786976294838206464, 73786976294838206464]) rfl ?_
          refine wq_iload rfl rfl (wm_zlt p69) ?_
          refine wq_if_eq rfl rfl (wm_zlt p69) (fun h71 => ?_) (fun h71 => ?_)
          · replace h := od_pos h h71
            exact hr136 T70 hv1 p66 hv3 p69 h
          · replace h := od_neg h h71
            refine wq_aload_n rfl rfl rfl ?_
            obtain ⟨y72, e73, h⟩ := od_bindE h
            refine wd_virtZ (q := 0) (y := y72) (as := [36893488147419103232]) rfl rfl rfl (by decide) (Nat.le_of_ble_eq_true rfl) (Nat.le_of_ble_eq_true rfl) rfl (Nat.le_of_ble_eq_true rfl) rfl (dkT_212 T70 e73) (fun p74 T75 => ?_)
            refine wq_if_ne rfl rfl (wm_zlt p74) (fun h76 => ?_) (fun h76 => ?_)
            · replace h := od_neg h h76
              exact hr136 T75 hv1 p66 hv3 p69 h
            · replace h := od_pos h h76
              refine wq_iconst rfl rfl ?_
              exact wq_iret rfl (wm_zlt (by decide)) (Nat.blt_eq.mpr (by decide)) (wkOZ h T75 (by decide))
        · replace h := od_pos h h63
          refine wq_iconst rfl rfl ?_
          exact wq_iret rfl (wm_zlt (by decide)) (Nat.blt_eq.mpr (by decide)) (wkOZ h T62 (by decide))
    · replace h := od_neg h h49
      refine wq_aload_n rfl rfl rfl ?_
      obtain ⟨y77, e78, h⟩ := od_bindE h
      refine wd_virtZ (q := 0) (y := y77) (as := [36893488147419103232]) rfl rfl rfl (by decide) (Nat.le_of_ble_eq_true rfl) (Nat.le_of_ble_eq_true rfl) rfl (Nat.le_of_ble_eq_true rfl) rfl (dkT_211 hT e78) (fun p79 T80 => ?_)
      exact wq_iret rfl (wm_zlt p79) (Nat.blt_eq.mpr p79) (wkOZ h T80 p79)
def dk_230_136 (n : Nat) : Nat → wq_F → Nat → Nat → Nat → Nat → Option (Nat × wq_F)
  | 0 => fun _ _ _ _ _ => none
  | g + 1 => dk_230_136b n (dk_230_136 n g)
theorem dk_230_136T {d n : Nat} : ∀ g : Nat, ∀ ⦃F : wq_F⦄ (hT : wm_T F) ⦃v1 : Nat⦄ (hv1 : v1 < 4294967296) ⦃v2 : Nat⦄ (hv2 : v2 < 4294967296) ⦃v3 : Nat⦄ (hv3 : v3 < 4294967296) ⦃v4 : Nat⦄ (hv4 : v4 < 2) ⦃x : Nat × wq_F⦄ (h : dk_230_136 n g F v1 v2 v3 v4 = some x), wq (wq_cf (d + 2)) (ev_un al_mX12_readLocal.2.2.2.2) (some .boolean) 136 [36893488147419103232, v1, v2, v3, v4, 73786976294838206464, 73786976294838206464] [] wm_sh F 0 0 (wkZ wm_T wm_sh x)
  | 0 => by
    intro F hT v1 hv1 v2 hv2 v3 hv3 v4 hv4 x h
    cases h
  | g + 1 => dk_230_136bT (dk_230_136T g)
def dk_230_38 (n : Nat) (F : wq_F) : Option (Nat × wq_F) :=
  (dk_210 F).bind fun y1 =>
  (dk_219 y1.2 y1.1).bind fun y5 =>
  if 2147483648 ≤ y5.1 then
    some (0, y5.2)
  else
    od_g (y5.2 0 25 < 1502) <|
    od_let (18446744073709551616 + y5.2 11 (y5.2 0 25)) fun y11 =>
    (dk_220 y5.2 (ev_oL2i y11) y5.1).bind fun y14 =>
    (dk_30 y14.2 1 0 0 0).bind fun y18 =>
    (dk_30 y18.2 19 y5.1 0 0).bind fun y22 =>
    (dk_212 y22.2).bind fun y26 =>
    if y26.1 = 0 then
      some (0, y26.2)
    else
      (dk_31 y26.2 40 y5.1 0 0).bind fun y31 =>
      (dk_31 y31.2 19 0 0 0).bind fun y35 =>
      some (1, y35.2)
theorem dk_230_38T {d n : Nat} : ∀ ⦃F : wq_F⦄ (hT : wm_T F) ⦃x : Nat × wq_F⦄ (h : dk_230_38 n F = some x), wq (wq_cf (d + 2)) (ev_un al_mX12_readLocal.2.2.2.2) (some .boolean) 38 [36893488147419103232, 73786976294838206464, 73786976294838206464, 73786976294838206464, 73786976294838206464, 73786976294838206464, 73786976294838206464] [] wm_sh F 0 0 (wkZ wm_T wm_sh x) := by
  intro F hT x h
  unfold dk_230_38 at h
  refine wq_aload_n rfl rfl rfl ?_
  refine wq_aload_n rfl rfl rfl ?_
  obtain ⟨y1, e2, h⟩ := od_bindE h
  refine wd_virtI (q := 0) (y := y1) (as := [36893488147419103232]) rfl rfl rfl (by decide) (Nat.le_of_ble_eq_true rfl) (Nat.le_of_ble_eq_true rfl) rfl (Nat.le_of_ble_eq_true rfl) rfl (dkT_210 hT e2) (fun p3 T4 => ?_)
  obtain ⟨y5, e6, h⟩ := od_bindE h
  refine wd_virtI (q := 0) (y := y5) (as := [36893488147419103232, y1.1]) rfl rfl rfl (by decide) (Nat.le_of_ble_eq_true rfl) (Nat.le_of_ble_eq_true rfl) rfl (Nat.le_of_ble_eq_true rfl) rfl (dkT_219 T4 p3 e6) (fun p7 T8 => ?_)
  refine wq_istore_n rfl p7 (Nat.le_of_ble_eq_true rfl) (Or.inr ⟨_, rfl, rfl⟩) (L' := [36893488147419103232, y5.1, 73786976294838206464, 73786976294838206464, 73786976294838206464, 73786976294838206464, 73786976294838206464]) rfl ?_
  refine wq_iload_n rfl rfl p7 ?_
  refine wq_if_ge rfl rfl p7 (fun h9 => ?_) (fun h9 => ?_)
  · replace h := od_neg h (Nat.not_le.mpr h9)
    refine wq_aload_n rfl rfl rfl ?_
    refine wq_aload_n rfl rfl rfl ?_
    refine wm_getR (v := 36893488147419103243) rfl (by decide) (T8.r 23 10 rfl) ?_
    refine wq_aload_n rfl rfl rfl ?_
    refine wm_getI rfl (by decide) ?_
    obtain ⟨g10, h⟩ := od_gE h
    refine wq_laload (q := 11) (n := 1502) rfl rfl (by decide) g10 (by decide) ?_
    obtain ⟨y11, e12, h⟩ := od_letE h
    refine wq_top e12.symm ?_
    have p13 : ev_isL y11 = true := wd_ge e12 (wm_al_L (T8.al (k := 11) rfl g10))
    refine wq_l2i rfl p13 ?_
    refine wq_iload_n rfl rfl p7 ?_
    obtain ⟨y14, e15, h⟩ := od_bindE h
    refine wd_virtN (q := 0) (y := y14) (as := [36893488147419103232, ev_oL2i y11, y5.1]) rfl rfl rfl (by decide) (Nat.le_of_ble_eq_true rfl) (Nat.le_of_ble_eq_true rfl) rfl (Nat.le_of_ble_eq_true rfl) rfl (dkT_220 T8 (Nat.mod_lt _ (by decide)) p7 e15) (fun T17 => ?_)
    refine wq_aload_n rfl rfl rfl ?_
    refine wq_iconst rfl rfl ?_
    refine wq_iconst rfl rfl ?_
    refine wq_iconst rfl rfl ?_
    refine wq_iconst rfl rfl ?_
    obtain ⟨y18, e19, h⟩ := od_bindE h
    refine wd_virtI (q := 0) (y := y18) (as := [36893488147419103232, 1, 0, 0, 0]) rfl rfl rfl (by decide) (Nat.le_of_ble_eq_true rfl) (Nat.le_of_ble_eq_true rfl) rfl (Nat.le_of_ble_eq_true rfl) rfl (dkT_30 T17 (wm_zlt (by decide)) (wm_zlt (by decide)) (wm_zlt (by decide)) (wm_zlt (by decide)) e19) (fun p20 T21 => ?_)
    refine wq_istore_n rfl p20 (Nat.le_of_ble_eq_true rfl) (Or.inr ⟨_, rfl, (wq_notL p7)⟩) (L' := [36893488147419103232, y5.1, y18.1, 73786976294838206464, 73786976294838206464, 73786976294838206464, 73786976294838206464]) rfl ?_
    refine wq_aload_n rfl rfl rfl ?_
    refine wq_bipush rfl rfl ?_
    refine wq_iload_n rfl rfl p7 ?_
    refine wq_iconst rfl rfl ?_
    refine wq_iconst rfl rfl ?_
    obtain ⟨y22, e23, h⟩ := od_bindE h
    refine wd_virtI (q := 0) (y := y22) (as := [36893488147419103232, 19, y5.1, 0, 0]) rfl rfl rfl (by decide) (Nat.le_of_ble_eq_true rfl) (Nat.le_of_ble_eq_true rfl) rfl (Nat.le_of_ble_eq_true rfl) rfl (dkT_30 T21 (by decide) p7 (wm_zlt (by decide)) (wm_zlt (by decide)) e23) (fun p24 T25 => ?_)
    refine wq_istore_n rfl p24 (Nat.le_of_ble_eq_true rfl) (Or.inr ⟨_, rfl, (wq_notL p7)⟩) (L' := [36893488147419103232, y5.1, y22.1, 73786976294838206464, 73786976294838206464, 73786976294838206464, 73786976294838206464]) rfl ?_
    refine wq_aload_n rfl rfl rfl ?_
    obtain ⟨y26, e27, h⟩ := od_bindE h
    refine wd_virtZ (q := 0) (y := y26) (as := [36893488147419103232]) rfl rfl rfl (by decide) (Nat.le_of_ble_eq_true rfl) (Nat.le_of_ble_eq_true rfl) rfl (Nat.le_of_ble_eq_true rfl) rfl (dkT_212 T25 e27) (fun p28 T29 => ?_)
    refine wq_if_ne rfl rfl (wm_zlt p28) (fun h30 => ?_) (fun h30 => ?_)
    · replace h := od_neg h h30
      refine wq_aload_n rfl rfl rfl ?_
      refine wq_bipush rfl rfl ?_
      refine wq_iload_n rfl rfl p7 ?_
      refine wq_iconst rfl rfl ?_
      refine wq_iconst rfl rfl ?_
      obtain ⟨y31, e32, h⟩ := od_bindE h
      refine wd_virtN (q := 0) (y := y31) (as := [36893488147419103232, 40, y5.1, 0, 0]) rfl rfl rfl (by decide) (Nat.le_of_ble_eq_true rfl) (Nat.le_of_ble_eq_true rfl) rfl (Nat.le_of_ble_eq_true rfl) rfl (dkT_31 T29 (by decide) p7 (wm_zlt (by decide)) (wm_zlt (by decide)) e32) (fun T34 => ?_)
      refine wq_aload_n rfl rfl rfl ?_
      refine wq_bipush rfl rfl ?_
      refine wq_iconst rfl rfl ?_
      refine wq_iconst rfl rfl ?_
      refine wq_iconst rfl rfl ?_
      obtain ⟨y35, e36, h⟩ := od_bindE h
      refine wd_virtN (q := 0) (y := y35) (as := [36893488147419103232, 19, 0, 0, 0]) rfl rfl rfl (by decide) (Nat.le_of_ble_eq_true rfl) (Nat.le_of_ble_eq_true rfl) rfl (Nat.le_of_ble_eq_true rfl) rfl (dkT_31 T34 (by decide) (wm_zlt (by decide)) (wm_zlt (by decide)) (wm_zlt (by decide)) e36) (fun T38 => ?_)
      refine wq_iconst rfl rfl ?_
      exact wq_iret rfl (wm_zlt (by decide)) (Nat.blt_eq.mpr (by decide)) (wkOZ h T38 (by decide))
    · replace h := od_pos h h30
      refine wq_iconst rfl rfl ?_
      exact wq_iret rfl (wm_zlt (by decide)) (Nat.blt_eq.mpr (by decide)) (wkOZ h T29 (by decide))
  · replace h := od_pos h h9
    refine wq_iconst rfl rfl ?_
    exact wq_iret rfl (wm_zlt (by decide)) (Nat.blt_eq.mpr (by decide)) (wkOZ h T8 (by decide))
/-- X12_readLocal -/
def dk_230 (n : Nat) (F : wq_F) : Option (Nat × wq_F) :=
  (dk_34 F 9).bind fun y1 =>
  if y1.1 = 0 then
    (dk_218 y1.2).bind fun y6 =>
    od_g (y6.1 < 51) <|
    dk_230_136 n n y6.2 (y1.2 0 25) 0 (y6.2 14 y6.1) 1
  else
    (dk_212 y1.2).bind fun y11 =>
    if y11.1 = 0 then
      some (0, y11.2)
    else
      od_g (y11.2 0 25 < 1502) <|
      if (y11.2 9 (y11.2 0 25)) = 1 then
        dk_230_38 n y11.2
      else
        (dk_211 y11.2).bind fun y18 =>
        if y18.1 = 0 then
          some (0, y18.2)
        else
          dk_230_38 n y18.2
theorem dkT_230 {d n : Nat} {F : wq_F} (hT : wm_T F) {x : Nat × wq_F} (h : dk_230 n F = some x) : mq (d + 2 + 1) 230 [36893488147419103232] wm_sh F (wkZ wm_T wm_sh x) := by
  have e : ev_ent [36893488147419103232] = [36893488147419103232] := by
    rfl
  refine mq_of (maxL := 7) (rt := (some .boolean)) (code := (ev_un al_mX12_readLocal.2.2.2.2)) (L := [36893488147419103232, 73786976294838206464, 73786976294838206464, 73786976294838206464, 73786976294838206464, 73786976294838206464, 73786976294838206464]) rfl (by rw [e]; exact Nat.le_of_ble_eq_true rfl) (by rw [e]; rfl) ?_
  unfold dk_230 at h
  refine wq_aload_n rfl rfl rfl ?_
  refine wq_bipush rfl rfl ?_
  obtain ⟨y1, e2, h⟩ := od_bindE h
  refine wd_virtZ (q := 0) (y := y1) (as := [36893488147419103232, 9]) rfl rfl rfl (by decide) (Nat.le_of_ble_eq_true rfl) (Nat.le_of_ble_eq_true rfl) rfl (Nat.le_of_ble_eq_true rfl) rfl (dkT_34 hT (by decide) e2) (fun p3 T4 => ?_)
  refine wq_if_eq rfl rfl (wm_zlt p3) (fun h5 => ?_) (fun h5 => ?_)
  · replace h := od_pos h h5
    refine wq_aload_n rfl rfl rfl ?_
    refine wm_getI rfl (by decide) ?_
    refine wq_istore_n rfl (T4.i 25 rfl) (Nat.le_of_ble_eq_true rfl) (Or.inr ⟨_, rfl, rfl⟩) (L' := [36893488147419103232, y1.2 0 25, 73786976294838206464, 73786976294838206464, 73786976294838206464, 73786976294838206464, 73786976294838206464]) rfl ?_
    refine wq_iconst rfl rfl ?_
    refine wq_istore_n rfl (wm_zlt (by decide)) (Nat.le_of_ble_eq_true rfl) (Or.inr ⟨_, rfl, (wq_notL (T4.i 25 rfl))⟩) (L' := [36893488147419103232, y1.2 0 25, 0, 73786976294838206464, 73786976294838206464, 73786976294838206464, 73786976294838206464]) rfl ?_
    refine wq_aload_n rfl rfl rfl ?_
    refine wm_getR (v := 36893488147419103246) rfl (by decide) (T4.r 28 13 rfl) ?_
    refine wq_aload_n rfl rfl rfl ?_
    obtain ⟨y6, e7, h⟩ := od_bindE h
    refine wd_virtI (q := 0) (y := y6) (as := [36893488147419103232]) rfl rfl rfl (by decide) (Nat.le_of_ble_eq_true rfl) (Nat.le_of_ble_eq_true rfl) rfl (Nat.le_of_ble_eq_true rfl) rfl (dkT_218 T4 e7) (fun p8 T9 => ?_)
    obtain ⟨g10, h⟩ := od_gE h
    refine wq_iaload (q := 14) (n := 51) rfl rfl (by decide) g10 (by decide) ?_
    refine wq_istore_n rfl (T9.ai (k := 14) rfl g10) (Nat.le_of_ble_eq_true rfl) (Or.inr ⟨_, rfl, (wq_notL (wm_zlt (by decide)))⟩) (L' := [36893488147419103232, y1.2 0 25, 0, y6.2 14 y6.1, 73786976294838206464, 73786976294838206464, 73786976294838206464]) rfl ?_
    refine wq_iconst rfl rfl ?_
    refine wq_istore rfl (wm_zlt (by decide)) (Nat.le_of_ble_eq_true rfl) (Or.inr ⟨_, rfl, (wq_notL (T9.ai (k := 14) rfl g10))⟩) (L' := [36893488147419103232, y1.2 0 25, 0, y6.2 14 y6.1, 1, 73786976294838206464, 73786976294838206464]) rfl ?_
    exact dk_230_136T n T9 (T4.i 25 rfl) (wm_zlt (by decide)) (T9.ai (k := 14) rfl g10) (by decide) h
  · replace h := od_neg h h5
    refine wq_aload_n rfl rfl rfl ?_
    obtain ⟨y11, e12, h⟩ := od_bindE h
    refine wd_virtZ (q := 0) (y := y11) (as := [36893488147419103232]) rfl rfl rfl (by decide) (Nat.le_of_ble_eq_true rfl) (Nat.le_of_ble_eq_true rfl) rfl (Nat.le_of_ble_eq_true rfl) rfl (dkT_212 T4 e12) (fun p13 T14 => ?_)
    refine wq_if_eq rfl rfl (wm_zlt p13) (fun h15 => ?_) (fun h15 => ?_)
    · replace h := od_pos h h15
      refine wq_iconst rfl rfl ?_
      exact wq_iret rfl (wm_zlt (by decide)) (Nat.blt_eq.mpr (by decide)) (wkOZ h T14 (by decide))
    · replace h := od_neg h h15
      refine wq_aload_n rfl rfl rfl ?_
      refine wm_getR (v := 36893488147419103241) rfl (by decide) (T14.r 21 8 rfl) ?_
      refine wq_aload_n rfl rfl rfl ?_
      refine wm_getI rfl (by decide) ?_
      obtain ⟨g16, h⟩ := od_gE h
      refine wq_iaload (q := 9) (n := 1502) rfl rfl (by decide) g16 (by decide) ?_
      refine wq_iconst rfl rfl ?_
      refine wq_ic_eq rfl rfl (T14.ai (k := 9) rfl g16) (wm_zlt (by decide)) (fun h17 => ?_) (fun h17 => ?_)
      · replace h := od_pos h h17
        exact dk_230_38T T14 h
      · replace h := od_neg h h17
        refine wq_aload_n rfl rfl rfl ?_
        obtain ⟨y18, e19, h⟩ := od_bindE h
        refine wd_virtZ (q := 0) (y := y18) (as := [36893488147419103232]) rfl rfl rfl (by decide) (Nat.le_of_ble_eq_true rfl) (Nat.le_of_ble_eq_true rfl) rfl (Nat.le_of_ble_eq_true rfl) rfl (dkT_211 T14 e19) (fun p20 T21 => ?_)
        refine wq_if_ne rfl rfl (wm_zlt p20) (fun h22 => ?_) (fun h22 => ?_)
        · replace h := od_neg h h22
          exact dk_230_38T T21 h
        · replace h := od_pos h h22
          refine wq_iconst rfl rfl ?_
          exact wq_iret rfl (wm_zlt (by decide)) (Nat.blt_eq.mpr (by decide)) (wkOZ h T21 (by decide))
/-- X12_readBreak -/
def dk_229 (F : wq_F) (a0 : Nat) : Option (Nat × wq_F) :=
  if (F 0 56) = 0 then
    (dk_209 F 4 a0).bind fun y2 =>
    some (y2.1, y2.2)
  else
    od_let (((F 0 56) + (4294967296 - 1)) % 4294967296) fun y6 =>
    od_g (y6 < 64) <|
    if (F 34 y6) = (F 0 53) then
      od_let (((F 0 56) + (4294967296 - 1)) % 4294967296) fun y11 =>
      od_let (((F 0 56) + (4294967296 - 1)) % 4294967296) fun y14 =>
      od_g (y14 < 64) <|
      (dk_30 F 21 (F 33 y14) 0 0).bind fun y18 =>
      od_g (y11 < 64) <|
      od_up y18.2 33 y11 y18.1 fun F23 =>
      some (1, F23)
    else
      (dk_209 F 4 a0).bind fun y26 =>
      some (y26.1, y26.2)
theorem dkT_229 {d : Nat} {F : wq_F} (hT : wm_T F) {a0 : Nat} (ha0 : a0 < 4294967296) {x : Nat × wq_F} (h : dk_229 F a0 = some x) : mq (d + 1 + 1) 229 [36893488147419103232, a0] wm_sh F (wkZ wm_T wm_sh x) := by
  have e : ev_ent [36893488147419103232, a0] = [36893488147419103232, a0] := by
    show 36893488147419103232 :: ev_ent [a0] = _
    rw [wm_entI ha0]
    rfl
  refine mq_of (maxL := 2) (rt := (some .boolean)) (code := (ev_un al_mX12_readBreak.2.2.2.2)) (L := [36893488147419103232, a0]) rfl (by rw [e]; exact Nat.le_of_ble_eq_true rfl) (by rw [e]; rfl) ?_
  unfold dk_229 at h
  refine wq_aload_n rfl rfl rfl ?_
  refine wm_getI rfl (by decide) ?_
  refine wq_if_eq rfl rfl (hT.i 56 rfl) (fun h1 => ?_) (fun h1 => ?_)
  · replace h := od_pos h h1
    refine wq_aload_n rfl rfl rfl ?_
    refine wq_iconst rfl rfl ?_
    refine wq_iload_n rfl rfl ha0 ?_
    obtain ⟨y2, e3, h⟩ := od_bindE h
    refine wd_virtZ (q := 0) (y := y2) (as := [36893488147419103232, 4, a0]) rfl rfl rfl (by decide) (Nat.le_of_ble_eq_true rfl) (Nat.le_of_ble_eq_true rfl) rfl (Nat.le_of_ble_eq_true rfl) rfl (dkT_209 hT (by decide) ha0 e3) (fun p4 T5 => ?_)
    exact wq_iret rfl (wm_zlt p4) (Nat.blt_eq.mpr p4) (wkOZ h T5 p4)
  · replace h := od_neg h h1
    refine wq_aload_n rfl rfl rfl ?_
    refine wm_getR (v := 36893488147419103266) rfl (by decide) (hT.r 55 33 rfl) ?_
    refine wq_aload_n rfl rfl rfl ?_
    refine wm_getI rfl (by decide) ?_
    refine wq_iconst rfl rfl ?_
    refine wq_isubZ rfl (hT.i 56 rfl) (wm_zlt (by decide)) (z := ((F 0 56) + (4294967296 - 1)) % 4294967296) rfl ?_
    obtain ⟨y6, e7, h⟩ := od_letE h
    refine wq_top e7.symm ?_
    have p8 : y6 < 4294967296 := wd_lt e7 (Nat.mod_lt _ (by decide))
    obtain ⟨g9, h⟩ := od_gE h
    refine wq_iaload (q := 34) (n := 64) rfl rfl (by decide) g9 (by decide) ?_
    refine wq_aload_n rfl rfl rfl ?_
    refine wm_getI rfl (by decide) ?_
    refine wq_ic_eq rfl rfl (hT.ai (k := 34) rfl g9) (hT.i 53 rfl) (fun h10 => ?_) (fun h10 => ?_)
    · replace h := od_pos h h10
      refine wq_aload_n rfl rfl rfl ?_
      refine wm_getR (v := 36893488147419103265) rfl (by decide) (hT.r 54 32 rfl) ?_
      refine wq_aload_n rfl rfl rfl ?_
      refine wm_getI rfl (by decide) ?_
      refine wq_iconst rfl rfl ?_
      refine wq_isubZ rfl (hT.i 56 rfl) (wm_zlt (by decide)) (z := ((F 0 56) + (4294967296 - 1)) % 4294967296) rfl ?_
      obtain ⟨y11, e12, h⟩ := od_letE h
      refine wq_top e12.symm ?_
      have p13 : y11 < 4294967296 := wd_lt e12 (Nat.mod_lt _ (by decide))
      refine wq_aload_n rfl rfl rfl ?_
      refine wq_bipush rfl rfl ?_
      refine wq_aload_n rfl rfl rfl ?_
      refine wm_getR (v := 36893488147419103265) rfl (by decide) (hT.r 54 32 rfl) ?_
      refine wq_aload_n rfl rfl rfl ?_
      refine wm_getI rfl (by decide) ?_
      refine wq_iconst rfl rfl ?_
      refine wq_isubZ rfl (hT.i 56 rfl) (wm_zlt (by decide)) (z := ((F 0 56) + (4294967296 - 1)) % 4294967296) rfl ?_
      obtain ⟨y14, e15, h⟩ := od_letE h
      refine wq_top e15.symm ?_
      have p16 : y14 < 4294967296 := wd_lt e15 (Nat.mod_lt _ (by decide))
      obtain ⟨g17, h⟩ := od_gE h
      refine wq_iaload (q := 33) (n := 64) rfl rfl (by decide) g17 (by decide) ?_
      refine wq_iconst rfl rfl ?_
      refine wq_iconst rfl rfl ?_
      obtain ⟨y18, e19, h⟩ := od_bindE h
      refine wd_virtI (q := 0) (y := y18) (as := [36893488147419103232, 21, F 33 y14, 0, 0]) rfl rfl rfl (by decide) (Nat.le_of_ble_eq_true rfl) (Nat.le_of_ble_eq_true rfl) rfl (Nat.le_of_ble_eq_true rfl) rfl (dkT_30 hT (by decide) (hT.ai (k := 33) rfl g17) (wm_zlt (by decide)) (wm_zlt (by decide)) e19) (fun p20 T21 => ?_)
      obtain ⟨g22, h⟩ := od_gE h
      obtain ⟨F23, e24, h⟩ := od_upE h
      refine wd_iastore (q := 33) (n := 64) rfl rfl (by decide) g22 (by decide) p20 e24 ?_
      have T25 : wm_T F23 := wd_T e24 (T21.ua (k := 33) (kd := 1000) (n := 64) (i := y11) (v := y18.1) rfl (by decide) g22 (show y18.1 < 4294967296 from p20))
      refine wq_iconst rfl rfl ?_
      exact wq_iret rfl (wm_zlt (by decide)) (Nat.blt_eq.mpr (by decide)) (wkOZ h T25 (by decide))
    · replace h := od_neg h h10
      refine wq_aload_n rfl rfl rfl ?_
      refine wq_iconst rfl rfl ?_
      refine wq_iload_n rfl rfl ha0 ?_
      obtain ⟨y26, e27, h⟩ := od_bindE h
      refine wd_virtZ (q := 0) (y := y26) (as := [36893488147419103232, 4, a0]) rfl rfl rfl (by decide) (Nat.le_of_ble_eq_true rfl) (Nat.le_of_ble_eq_true rfl) rfl (Nat.le_of_ble_eq_true rfl) rfl (dkT_209 hT (by decide) ha0 e27) (fun p28 T29 => ?_)
      exact wq_iret rfl (wm_zlt p28) (Nat.blt_eq.mpr p28) (wkOZ h T29 p28)
/-- X12_statement -/
def dk_226 (n : Nat) (F : wq_F) : Option (Nat × wq_F) :=
  (dk_36 F 59).bind fun y1 =>
  if y1.1 = 0 then
    (dk_215 y1.2).bind fun y6 =>
    (dk_30 y6.2 0 0 0 0).bind fun y10 =>
    od_g (y10.2 0 25 < 1502) <|
    if (y10.2 9 (y10.2 0 25)) = 4 then
      od_g (y10.2 0 25 < 1502) <|
      od_let (18446744073709551616 + y10.2 11 (y10.2 0 25)) fun y17 =>
      (dk_210 y10.2).bind fun y20 =>
      (dk_212 y20.2).bind fun y24 =>
      if y24.1 = 0 then
        some (0, y24.2)
      else
        od_let (ev_oL2i y17) fun y29 =>
        if y29 = 3 then
          (dk_31 y24.2 30 0 0 0).bind fun y34 =>
          (dk_224 y34.2).bind fun y38 =>
          some (1, y38.2)
        else if y29 = 4 then
          (dk_229 y24.2 y20.1).bind fun y44 =>
          some (y44.1, y44.2)
        else if y29 = 5 then
          (dk_229 y24.2 y20.1).bind fun y50 =>
          some (y50.1, y50.2)
        else if y29 = 6 then
          (dk_229 y24.2 y20.1).bind fun y56 =>
          some (y56.1, y56.2)
        else if y29 = 7 then
          (dk_229 y24.2 y20.1).bind fun y62 =>
          some (y62.1, y62.2)
        else if y29 = 8 then
          (dk_233 n y24.2 y6.1).bind fun y68 =>
          some (y68.1, y68.2)
        else if y29 = 9 then
          (dk_232 n y24.2).bind fun y74 =>
          some (y74.1, y74.2)
        else if y29 = 10 then
          (dk_31 y24.2 23 4294967295 0 0).bind fun y80 =>
          (dk_31 y80.2 3 0 0 0).bind fun y84 =>
          some (1, y84.2)
        else if y29 = 11 then
          (dk_229 y24.2 y20.1).bind fun y90 =>
          some (y90.1, y90.2)
        else if y29 = 12 then
          (dk_230 n y24.2).bind fun y96 =>
          some (y96.1, y96.2)
        else if y29 = 13 then
          (dk_229 y24.2 y20.1).bind fun y102 =>
          some (y102.1, y102.2)
        else if y29 = 14 then
          (dk_229 y24.2 y20.1).bind fun y108 =>
          some (y108.1, y108.2)
        else if y29 = 15 then
          (dk_229 y24.2 y20.1).bind fun y114 =>
          some (y114.1, y114.2)
        else if y29 = 16 then
          (dk_227 y24.2).bind fun y120 =>
          (dk_218 y120.2).bind fun y124 =>
          od_g (y124.1 < 51) <|
          (dk_31 y124.2 28 (y120.2 0 41) (y120.2 0 50) (y124.2 14 y124.1)).bind fun y129 =>
          (dk_31 y129.2 0 0 0 0).bind fun y133 =>
          some (1, y133.2)
        else if y29 = 17 then
          (dk_229 y24.2 y20.1).bind fun y139 =>
          some (y139.1, y139.2)
        else if y29 = 18 then
          (dk_229 y24.2 y20.1).bind fun y145 =>
          some (y145.1, y145.2)
        else if y29 = 19 then
          (dk_229 y24.2 y20.1).bind fun y151 =>
          some (y151.1, y151.2)
        else if y29 = 20 then
          (dk_229 y24.2 y20.1).bind fun y157 =>
          some (y157.1, y157.2)
        else if y29 = 21 then
          (dk_30 y24.2 0 0 0 0).bind fun y163 =>
          (dk_31 y163.2 26 y163.1 0 0).bind fun y167 =>
          (dk_31 y167.2 3 0 0 0).bind fun y171 =>
          some (1, y171.2)
        else 
        (dk_229 y24.2 y20.1).bind fun y176 =>
        some (y176.1, y176.2)
    else
      (dk_30 y10.2 14 0 0 0).bind fun y180 =>
      (dk_31 y180.2 21 (y180.2 0 60) 0 0).bind fun y184 =>
      (dk_31 y184.2 7 0 0 0).bind fun y188 =>
      some (1, y188.2)
  else
    (dk_212 y1.2).bind fun y192 =>
    some (y192.1, y192.2)
theorem dkT_226 {d n : Nat} {F : wq_F} (hT : wm_T F) {x : Nat × wq_F} (h : dk_226 n F = some x) : mq (d + 4 + 1) 226 [36893488147419103232] wm_sh F (wkZ wm_T wm_sh x) := by
  have e : ev_ent [36893488147419103232] = [36893488147419103232] := by
    rfl
  refine mq_of (maxL := 6) (rt := (some .boolean)) (code := (ev_un al_mX12_statement.2.2.2.2)) (L := [36893488147419103232, 73786976294838206464, 73786976294838206464, 73786976294838206464, 73786976294838206464, 73786976294838206464]) rfl (by rw [e]; exact Nat.le_of_ble_eq_true rfl) (by rw [e]; rfl) ?_
  unfold dk_226 at h
  refine wq_aload_n rfl rfl rfl ?_
  refine wq_bipush rfl rfl ?_
  obtain ⟨y1, e2, h⟩ := od_bindE h
  refine wd_virtZ (q := 0) (y := y1) (as := [36893488147419103232, 59]) rfl rfl rfl (by decide) (Nat.le_of_ble_eq_true rfl) (Nat.le_of_ble_eq_true rfl) rfl (Nat.le_of_ble_eq_true rfl) rfl (dkT_36 hT (by decide) e2) (fun p3 T4 => ?_)
  refine wq_if_eq rfl rfl (wm_zlt p3) (fun h5 => ?_) (fun h5 => ?_)
  · replace h := od_pos h h5
    refine wq_aload_n rfl rfl rfl ?_
    obtain ⟨y6, e7, h⟩ := od_bindE h
    refine wd_virtI (q := 0) (y := y6) (as := [36893488147419103232]) rfl rfl rfl (by decide) (Nat.le_of_ble_eq_true rfl) (Nat.le_of_ble_eq_true rfl) rfl (Nat.le_of_ble_eq_true rfl) rfl (dkT_215 T4 e7) (fun p8 T9 => ?_)
    refine wq_istore_n rfl p8 (Nat.le_of_ble_eq_true rfl) (Or.inr ⟨_, rfl, rfl⟩) (L' := [36893488147419103232, y6.1, 73786976294838206464, 73786976294838206464, 73786976294838206464, 73786976294838206464]) rfl ?_
    refine wq_aload_n rfl rfl rfl ?_
    refine wq_iconst rfl rfl ?_
    refine wq_iconst rfl rfl ?_
    refine wq_iconst rfl rfl ?_
    refine wq_iconst rfl rfl ?_
    obtain ⟨y10, e11, h⟩ := od_bindE h
    refine wd_virtI (q := 0) (y := y10) (as := [36893488147419103232, 0, 0, 0, 0]) rfl rfl rfl (by decide) (Nat.le_of_ble_eq_true rfl) (Nat.le_of_ble_eq_true rfl) rfl (Nat.le_of_ble_eq_true rfl) rfl (dkT_30 T9 (wm_zlt (by decide)) (wm_zlt (by decide)) (wm_zlt (by decide)) (wm_zlt (by decide)) e11) (fun p12 T13 => ?_)
    refine wq_istore_n rfl p12 (Nat.le_of_ble_eq_true rfl) (Or.inr ⟨_, rfl, (wq_notL p8)⟩) (L' := [36893488147419103232, y6.1, y10.1, 73786976294838206464, 73786976294838206464, 73786976294838206464]) rfl ?_
    refine wq_aload_n rfl rfl rfl ?_
    refine wm_getR (v := 36893488147419103241) rfl (by decide) (T13.r 21 8 rfl) ?_
    refine wq_aload_n rfl rfl rfl ?_
    refine wm_getI rfl (by decide) ?_
    obtain ⟨g14, h⟩ := od_gE h
    refine wq_iaload (q := 9) (n := 1502) rfl rfl (by decide) g14 (by decide) ?_
    refine wq_iconst rfl rfl ?_
    refine wq_ic_eq rfl rfl (T13.ai (k := 9) rfl g14) (by decide) (fun h15 => ?_) (fun h15 => ?_)
    · replace h := od_pos h h15
      refine wq_aload_n rfl rfl rfl ?_
      refine wm_getR (v := 36893488147419103243) rfl (by decide) (T13.r 23 10 rfl) ?_
      refine wq_aload_n rfl rfl rfl ?_
      refine wm_getI rfl (by decide) ?_
      obtain ⟨g16, h⟩ := od_gE h
      refine wq_laload (q := 11) (n := 1502) rfl rfl (by decide) g16 (by decide) ?_
      obtain ⟨y17, e18, h⟩ := od_letE h
      refine wq_top e18.symm ?_
      have p19 : ev_isL y17 = true := wd_ge e18 (wm_al_L (T13.al (k := 11) rfl g16))
      refine wq_l2i rfl p19 ?_
      refine wq_istore_n rfl (Nat.mod_lt _ (by decide)) (Nat.le_of_ble_eq_true rfl) (Or.inr ⟨_, rfl, (wq_notL p12)⟩) (L' := [36893488147419103232, y6.1, y10.1, ev_oL2i y17, 73786976294838206464, 73786976294838206464]) rfl ?_
      refine wq_aload_n rfl rfl rfl ?_
      obtain ⟨y20, e21, h⟩ := od_bindE h
      refine wd_virtI (q := 0) (y := y20) (as := [36893488147419103232]) rfl rfl rfl (by decide) (Nat.le_of_ble_eq_true rfl) (Nat.le_of_ble_eq_true rfl) rfl (Nat.le_of_ble_eq_true rfl) rfl (dkT_210 T13 e21) (fun p22 T23 => ?_)
      refine wq_istore rfl p22 (Nat.le_of_ble_eq_true rfl) (Or.inr ⟨_, rfl, (wq_notL (Nat.mod_lt _ (by decide)))⟩) (L' := [36893488147419103232, y6.1, y10.1, ev_oL2i y17, y20.1, 73786976294838206464]) rfl ?_
      refine wq_aload_n rfl rfl rfl ?_
      obtain ⟨y24, e25, h⟩ := od_bindE h
      refine wd_virtZ (q := 0) (y := y24) (as := [36893488147419103232]) rfl rfl rfl (by decide) (Nat.le_of_ble_eq_true rfl) (Nat.le_of_ble_eq_true rfl) rfl (Nat.le_of_ble_eq_true rfl) rfl (dkT_212 T23 e25) (fun p26 T27 => ?_)
      refine wq_if_ne rfl rfl (wm_zlt p26) (fun h28 => ?_) (fun h28 => ?_)
      · replace h := od_neg h h28
        refine wq_iload_n rfl rfl (Nat.mod_lt _ (by decide)) ?_
        obtain ⟨y29, e30, h⟩ := od_letE h
        refine wq_top e30.symm ?_
        have p31 : y29 < 4294967296 := wd_lt e30 (Nat.mod_lt _ (by decide))
        have i32 : y29 < 3 ∨ 3 ≤ y29 := Nat.lt_or_ge _ _
        by_cases h33 : y29 = 3
        case pos =>
          replace h := od_pos h h33
          refine wq_top h33 ?_
          refine wq_tsw rfl (by decide) (tgt := 192) rfl ?_
          refine wq_aload_n rfl rfl rfl ?_
          refine wq_bipush rfl rfl ?_
          refine wq_iconst rfl rfl ?_
          refine wq_iconst rfl rfl ?_
          refine wq_iconst rfl rfl ?_
          obtain ⟨y34, e35, h⟩ := od_bindE h
          refine wd_virtN (q := 0) (y := y34) (as := [36893488147419103232, 30, 0, 0, 0]) rfl rfl rfl (by decide) (Nat.le_of_ble_eq_true rfl) (Nat.le_of_ble_eq_true rfl) rfl (Nat.le_of_ble_eq_true rfl) rfl (dkT_31 T27 (by decide) (wm_zlt (by decide)) (wm_zlt (by decide)) (wm_zlt (by decide)) e35) (fun T37 => ?_)
          refine wq_aload_n rfl rfl rfl ?_
          obtain ⟨y38, e39, h⟩ := od_bindE h
          refine wd_virtN (q := 0) (y := y38) (as := [36893488147419103232]) rfl rfl rfl (by decide) (Nat.le_of_ble_eq_true rfl) (Nat.le_of_ble_eq_true rfl) rfl (Nat.le_of_ble_eq_true rfl) rfl (dkT_224 T37 e39) (fun T41 => ?_)
          refine wq_iconst rfl rfl ?_
          exact wq_iret rfl (wm_zlt (by decide)) (Nat.blt_eq.mpr (by decide)) (wkOZ h T41 (by decide))
        replace h := od_neg h h33
        have i42 : y29 < 3 ∨ 4 ≤ y29 := by omega
        clear i32
        by_cases h43 : y29 = 4
        case pos =>
          replace h := od_pos h h43
          refine wq_top h43 ?_
          refine wq_tsw rfl (by decide) (tgt := 309) rfl ?_
          refine wq_aload_n rfl rfl rfl ?_
          refine wq_iload rfl rfl p22 ?_
          obtain ⟨y44, e45, h⟩ := od_bindE h
          refine wd_virtZ (q := 0) (y := y44) (as := [36893488147419103232, y20.1]) rfl rfl rfl (by decide) (Nat.le_of_ble_eq_true rfl) (Nat.le_of_ble_eq_true rfl) rfl (Nat.le_of_ble_eq_true rfl) rfl (dkT_229 T27 p22 e45) (fun p46 T47 => ?_)
          exact wq_iret rfl (wm_zlt p46) (Nat.blt_eq.mpr p46) (wkOZ h T47 p46)
        replace h := od_neg h h43
        have i48 : y29 < 3 ∨ 5 ≤ y29 := by omega
        clear i42
        by_cases h49 : y29 = 5
        case pos =>
          replace h := od_pos h h49
          refine wq_top h49 ?_
          refine wq_tsw rfl (by decide) (tgt := 309) rfl ?_
          refine wq_aload_n rfl rfl rfl ?_
          refine wq_iload rfl rfl p22 ?_
          obtain ⟨y50, e51, h⟩ := od_bindE h
          refine wd_virtZ (q := 0) (y := y50) (as := [36893488147419103232, y20.1]) rfl rfl rfl (by decide) (Nat.le_of_ble_eq_true rfl) (Nat.le_of_ble_eq_true rfl) rfl (Nat.le_of_ble_eq_true rfl) rfl (dkT_229 T27 p22 e51) (fun p52 T53 => ?_)
          exact wq_iret rfl (wm_zlt p52) (Nat.blt_eq.mpr p52) (wkOZ h T53 p52)
        replace h := od_neg h h49
        have i54 : y29 < 3 ∨ 6 ≤ y29 := by omega
        clear i48
        by_cases h55 : y29 = 6
        case pos =>
          replace h := od_pos h h55
          refine wq_top h55 ?_
          refine wq_tsw rfl (by decide) (tgt := 309) rfl ?_
          refine wq_aload_n rfl rfl rfl ?_
          refine wq_iload rfl rfl p22 ?_
          obtain ⟨y56, e57, h⟩ := od_bindE h
          refine wd_virtZ (q := 0) (y := y56) (as := [36893488147419103232, y20.1]) rfl rfl rfl (by decide) (Nat.le_of_ble_eq_true rfl) (Nat.le_of_ble_eq_true rfl) rfl (Nat.le_of_ble_eq_true rfl) rfl (dkT_229 T27 p22 e57) (fun p58 T59 => ?_)
          exact wq_iret rfl (wm_zlt p58) (Nat.blt_eq.mpr p58) (wkOZ h T59 p58)
        replace h := od_neg h h55
        have i60 : y29 < 3 ∨ 7 ≤ y29 := by omega
        clear i54
        by_cases h61 : y29 = 7
        case pos =>
          replace h := od_pos h h61
          refine wq_top h61 ?_
          refine wq_tsw rfl (by decide) (tgt := 309) rfl ?_
          refine wq_aload_n rfl rfl rfl ?_
          refine wq_iload rfl rfl p22 ?_
          obtain ⟨y62, e63, h⟩ := od_bindE h
          refine wd_virtZ (q := 0) (y := y62) (as := [36893488147419103232, y20.1]) rfl rfl rfl (by decide) (Nat.le_of_ble_eq_true rfl) (Nat.le_of_ble_eq_true rfl) rfl (Nat.le_of_ble_eq_true rfl) rfl (dkT_229 T27 p22 e63) (fun p64 T65 => ?_)
          exact wq_iret rfl (wm_zlt p64) (Nat.blt_eq.mpr p64) (wkOZ h T65 p64)
        replace h := od_neg h h61
        have i66 : y29 < 3 ∨ 8 ≤ y29 := by omega
        clear i60
        by_cases h67 : y29 = 8
        case pos =>
          replace h := od_pos h h67
          refine wq_top h67 ?_
          refine wq_tsw rfl (by decide) (tgt := 293) rfl ?_
          refine wq_aload_n rfl rfl rfl ?_
          refine wq_iload_n rfl rfl p8 ?_
          obtain ⟨y68, e69, h⟩ := od_bindE h
          refine wd_virtZ (q := 0) (y := y68) (as := [36893488147419103232, y6.1]) rfl rfl rfl (by decide) (Nat.le_of_ble_eq_true rfl) (Nat.le_of_ble_eq_true rfl) rfl (Nat.le_of_ble_eq_true rfl) rfl (dkT_233 T27 p8 e69) (fun p70 T71 => ?_)
          exact wq_iret rfl (wm_zlt p70) (Nat.blt_eq.mpr p70) (wkOZ h T71 p70)
        replace h := od_neg h h67
        have i72 : y29 < 3 ∨ 9 ≤ y29 := by omega
        clear i66
        by_cases h73 : y29 = 9
        case pos =>
          replace h := od_pos h h73
          refine wq_top h73 ?_
          refine wq_tsw rfl (by decide) (tgt := 299) rfl ?_
          refine wq_aload_n rfl rfl rfl ?_
          obtain ⟨y74, e75, h⟩ := od_bindE h
          refine wd_virtZ (q := 0) (y := y74) (as := [36893488147419103232]) rfl rfl rfl (by decide) (Nat.le_of_ble_eq_true rfl) (Nat.le_of_ble_eq_true rfl) rfl (Nat.le_of_ble_eq_true rfl) rfl (dkT_232 T27 e75) (fun p76 T77 => ?_)
          exact wq_iret rfl (wm_zlt p76) (Nat.blt_eq.mpr p76) (wkOZ h T77 p76)
        replace h := od_neg h h73
        have i78 : y29 < 3 ∨ 10 ≤ y29 := by omega
        clear i72
        by_cases h79 : y29 = 10
        case pos =>
          replace h := od_pos h h79
          refine wq_top h79 ?_
          refine wq_tsw rfl (by decide) (tgt := 274) rfl ?_
          refine wq_aload_n rfl rfl rfl ?_
          refine wq_bipush rfl rfl ?_
          refine wq_iconst rfl rfl ?_
          refine wq_iconst rfl rfl ?_
          refine wq_iconst rfl rfl ?_
          obtain ⟨y80, e81, h⟩ := od_bindE h
          refine wd_virtN (q := 0) (y := y80) (as := [36893488147419103232, 23, 4294967295, 0, 0]) rfl rfl rfl (by decide) (Nat.le_of_ble_eq_true rfl) (Nat.le_of_ble_eq_true rfl) rfl (Nat.le_of_ble_eq_true rfl) rfl (dkT_31 T27 (by decide) (by decide) (wm_zlt (by decide)) (wm_zlt (by decide)) e81) (fun T83 => ?_)
          refine wq_aload_n rfl rfl rfl ?_
          refine wq_iconst rfl rfl ?_
          refine wq_iconst rfl rfl ?_
          refine wq_iconst rfl rfl ?_
          refine wq_iconst rfl rfl ?_
          obtain ⟨y84, e85, h⟩ := od_bindE h
          refine wd_virtN (q := 0) (y := y84) (as := [36893488147419103232, 3, 0, 0, 0]) rfl rfl rfl (by decide) (Nat.le_of_ble_eq_true rfl) (Nat.le_of_ble_eq_true rfl) rfl (Nat.le_of_ble_eq_true rfl) rfl (dkT_31 T83 (by decide) (wm_zlt (by decide)) (wm_zlt (by decide)) (wm_zlt (by decide)) e85) (fun T87 => ?_)
          refine wq_iconst rfl rfl ?_
          exact wq_iret rfl (wm_zlt (by decide)) (Nat.blt_eq.mpr (by decide)) (wkOZ h T87 (by decide))
        replace h := od_neg h h79
        have i88 : y29 < 3 ∨ 11 ≤ y29 := by omega
        clear i78
        by_cases h89 : y29 = 11
        case pos =>
          replace h := od_pos h h89
          refine wq_top h89 ?_
          refine wq_tsw rfl (by decide) (tgt := 309) rfl ?_
          refine wq_aload_n rfl rfl rfl ?_
          refine wq_iload rfl rfl p22 ?_
          obtain ⟨y90, e91, h⟩ := od_bindE h
          refine wd_virtZ (q := 0) (y := y90) (as := [36893488147419103232, y20.1]) rfl rfl rfl (by decide) (Nat.le_of_ble_eq_true rfl) (Nat.le_of_ble_eq_true rfl) rfl (Nat.le_of_ble_eq_true rfl) rfl (dkT_229 T27 p22 e91) (fun p92 T93 => ?_)
          exact wq_iret rfl (wm_zlt p92) (Nat.blt_eq.mpr p92) (wkOZ h T93 p92)
        replace h := od_neg h h89
        have i94 : y29 < 3 ∨ 12 ≤ y29 := by omega
        clear i88
        by_cases h95 : y29 = 12
        case pos =>
          replace h := od_pos h h95
          refine wq_top h95 ?_
          refine wq_tsw rfl (by decide) (tgt := 304) rfl ?_
          refine wq_aload_n rfl rfl rfl ?_
          obtain ⟨y96, e97, h⟩ := od_bindE h
          refine wd_virtZ (q := 0) (y := y96) (as := [36893488147419103232]) rfl rfl rfl (by decide) (Nat.le_of_ble_eq_true rfl) (Nat.le_of_ble_eq_true rfl) rfl (Nat.le_of_ble_eq_true rfl) rfl (dkT_230 T27 e97) (fun p98 T99 => ?_)
          exact wq_iret rfl (wm_zlt p98) (Nat.blt_eq.mpr p98) (wkOZ h T99 p98)
        replace h := od_neg h h95
        have i100 : y29 < 3 ∨ 13 ≤ y29 := by omega
        clear i94
        by_cases h101 : y29 = 13
        case pos =>
          replace h := od_pos h h101
          refine wq_top h101 ?_
          refine wq_tsw rfl (by decide) (tgt := 309) rfl ?_
          refine wq_aload_n rfl rfl rfl ?_
          refine wq_iload rfl rfl p22 ?_
          obtain ⟨y102, e103, h⟩ := od_bindE h
          refine wd_virtZ (q := 0) (y := y102) (as := [36893488147419103232, y20.1]) rfl rfl rfl (by decide) (Nat.le_of_ble_eq_true rfl) (Nat.le_of_ble_eq_true rfl) rfl (Nat.le_of_ble_eq_true rfl) rfl (dkT_229 T27 p22 e103) (fun p104 T105 => ?_)
          exact wq_iret rfl (wm_zlt p104) (Nat.blt_eq.mpr p104) (wkOZ h T105 p104)
        replace h := od_neg h h101
        have i106 : y29 < 3 ∨ 14 ≤ y29 := by omega
        clear i100
        by_cases h107 : y29 = 14
        case pos =>
          replace h := od_pos h h107
          refine wq_top h107 ?_
          refine wq_tsw rfl (by decide) (tgt := 309) rfl ?_
          refine wq_aload_n rfl rfl rfl ?_
          refine wq_iload rfl rfl p22 ?_
          obtain ⟨y108, e109, h⟩ := od_bindE h
          refine wd_virtZ (q := 0) (y := y108) (as := [36893488147419103232, y20.1]) rfl rfl rfl (by decide) (Nat.le_of_ble_eq_true rfl) (Nat.le_of_ble_eq_true rfl) rfl (Nat.le_of_ble_eq_true rfl) rfl (dkT_229 T27 p22 e109) (fun p110 T111 => ?_)
          exact wq_iret rfl (wm_zlt p110) (Nat.blt_eq.mpr p110) (wkOZ h T111 p110)
        replace h := od_neg h h107
        have i112 : y29 < 3 ∨ 15 ≤ y29 := by omega
        clear i106
        by_cases h113 : y29 = 15
        case pos =>
          replace h := od_pos h h113
          refine wq_top h113 ?_
          refine wq_tsw rfl (by decide) (tgt := 309) rfl ?_
          refine wq_aload_n rfl rfl rfl ?_
          refine wq_iload rfl rfl p22 ?_
          obtain ⟨y114, e115, h⟩ := od_bindE h
          refine wd_virtZ (q := 0) (y := y114) (as := [36893488147419103232, y20.1]) rfl rfl rfl (by decide) (Nat.le_of_ble_eq_true rfl) (Nat.le_of_ble_eq_true rfl) rfl (Nat.le_of_ble_eq_true rfl) rfl (dkT_229 T27 p22 e115) (fun p116 T117 => ?_)
          exact wq_iret rfl (wm_zlt p116) (Nat.blt_eq.mpr p116) (wkOZ h T117 p116)
        replace h := od_neg h h113
        have i118 : y29 < 3 ∨ 16 ≤ y29 := by omega
        clear i112
        by_cases h119 : y29 = 16
        case pos =>
          replace h := od_pos h h119
          refine wq_top h119 ?_
          refine wq_tsw rfl (by decide) (tgt := 237) rfl ?_
          refine wq_aload_n rfl rfl rfl ?_
          obtain ⟨y120, e121, h⟩ := od_bindE h
          refine wd_virtN (q := 0) (y := y120) (as := [36893488147419103232]) rfl rfl rfl (by decide) (Nat.le_of_ble_eq_true rfl) (Nat.le_of_ble_eq_true rfl) rfl (Nat.le_of_ble_eq_true rfl) rfl (dkT_227 T27 e121) (fun T123 => ?_)
          refine wq_aload_n rfl rfl rfl ?_
          refine wq_bipush rfl rfl ?_
          refine wq_aload_n rfl rfl rfl ?_
          refine wm_getI rfl (by decide) ?_
          refine wq_aload_n rfl rfl rfl ?_
          refine wm_getI rfl (by decide) ?_
          refine wq_aload_n rfl rfl rfl ?_
          refine wm_getR (v := 36893488147419103246) rfl (by decide) (T123.r 28 13 rfl) ?_
          refine wq_aload_n rfl rfl rfl ?_
          obtain ⟨y124, e125, h⟩ := od_bindE h
          refine wd_virtIC (q := 0) (y := y124) (rest := [36893488147419103246, y120.2 0 50, y120.2 0 41, 28, 36893488147419103232]) (as := [36893488147419103232]) rfl rfl rfl (by decide) (Nat.le_of_ble_eq_true rfl) (Nat.le_of_ble_eq_true rfl) rfl (ev_cat_c rfl (ev_cat_c (wq_notL (T123.i 50 rfl)) (ev_cat_c (wq_notL (T123.i 41 rfl)) (ev_cat_c (wq_notL (by decide)) (ev_cat_c rfl (show ev_cat [] ≤ 3 from by decide)))))) rfl (dkT_218 T123 e125) (fun p126 T127 => ?_)
          obtain ⟨g128, h⟩ := od_gE h
          refine wq_iaload (q := 14) (n := 51) rfl rfl (by decide) g128 (by decide) ?_
          obtain ⟨y129, e130, h⟩ := od_bindE h
          refine wd_virtN (q := 0) (y := y129) (as := [36893488147419103232, 28, y120.2 0 41, y120.2 0 50, y124.2 14 y124.1]) rfl rfl rfl (by decide) (Nat.le_of_ble_eq_true rfl) (Nat.le_of_ble_eq_true rfl) rfl (Nat.le_of_ble_eq_true rfl) rfl (dkT_31 T127 (by decide) (T123.i 41 rfl) (T123.i 50 rfl) (T127.ai (k := 14) rfl g128) e130) (fun T132 => ?_)
          refine wq_aload_n rfl rfl rfl ?_
          refine wq_iconst rfl rfl ?_
          refine wq_iconst rfl rfl ?_
          refine wq_iconst rfl rfl ?_
          refine wq_iconst rfl rfl ?_
          obtain ⟨y133, e134, h⟩ := od_bindE h
          refine wd_virtN (q := 0) (y := y133) (as := [36893488147419103232, 0, 0, 0, 0]) rfl rfl rfl (by decide) (Nat.le_of_ble_eq_true rfl) (Nat.le_of_ble_eq_true rfl) rfl (Nat.le_of_ble_eq_true rfl) rfl (dkT_31 T132 (wm_zlt (by decide)) (wm_zlt (by decide)) (wm_zlt (by decide)) (wm_zlt (by decide)) e134) (fun T136 => ?_)
          refine wq_iconst rfl rfl ?_
          exact wq_iret rfl (wm_zlt (by decide)) (Nat.blt_eq.mpr (by decide)) (wkOZ h T136 (by decide))
        replace h := od_neg h h119
        have i137 : y29 < 3 ∨ 17 ≤ y29 := by omega
        clear i118
        by_cases h138 : y29 = 17
        case pos =>
          replace h := od_pos h h138
          refine wq_top h138 ?_
          refine wq_tsw rfl (by decide) (tgt := 309) rfl ?_
          refine wq_aload_n rfl rfl rfl ?_
          refine wq_iload rfl rfl p22 ?_
          obtain ⟨y139, e140, h⟩ := od_bindE h
          refine wd_virtZ (q := 0) (y := y139) (as := [36893488147419103232, y20.1]) rfl rfl rfl (by decide) (Nat.le_of_ble_eq_true rfl) (Nat.le_of_ble_eq_true rfl) rfl (Nat.le_of_ble_eq_true rfl) rfl (dkT_229 T27 p22 e140) (fun p141 T142 => ?_)
          exact wq_iret rfl (wm_zlt p141) (Nat.blt_eq.mpr p141) (wkOZ h T142 p141)
        replace h := od_neg h h138
        have i143 : y29 < 3 ∨ 18 ≤ y29 := by omega
        clear i137
        by_cases h144 : y29 = 18
        case pos =>
          replace h := od_pos h h144
          refine wq_top h144 ?_
          refine wq_tsw rfl (by decide) (tgt := 309) rfl ?_
          refine wq_aload_n rfl rfl rfl ?_
          refine wq_iload rfl rfl p22 ?_
          obtain ⟨y145, e146, h⟩ := od_bindE h
          refine wd_virtZ (q := 0) (y := y145) (as := [36893488147419103232, y20.1]) rfl rfl rfl (by decide) (Nat.le_of_ble_eq_true rfl) (Nat.le_of_ble_eq_true rfl) rfl (Nat.le_of_ble_eq_true rfl) rfl (dkT_229 T27 p22 e146) (fun p147 T148 => ?_)
          exact wq_iret rfl (wm_zlt p147) (Nat.blt_eq.mpr p147) (wkOZ h T148 p147)
        replace h := od_neg h h144
        have i149 : y29 < 3 ∨ 19 ≤ y29 := by omega
        clear i143
        by_cases h150 : y29 = 19
        case pos =>
          replace h := od_pos h h150
          refine wq_top h150 ?_
          refine wq_tsw rfl (by decide) (tgt := 309) rfl ?_
          refine wq_aload_n rfl rfl rfl ?_
          refine wq_iload rfl rfl p22 ?_
          obtain ⟨y151, e152, h⟩ := od_bindE h
          refine wd_virtZ (q := 0) (y := y151) (as := [36893488147419103232, y20.1]) rfl rfl rfl (by decide) (Nat.le_of_ble_eq_true rfl) (Nat.le_of_ble_eq_true rfl) rfl (Nat.le_of_ble_eq_true rfl) rfl (dkT_229 T27 p22 e152) (fun p153 T154 => ?_)
          exact wq_iret rfl (wm_zlt p153) (Nat.blt_eq.mpr p153) (wkOZ h T154 p153)
        replace h := od_neg h h150
        have i155 : y29 < 3 ∨ 20 ≤ y29 := by omega
        clear i149
        by_cases h156 : y29 = 20
        case pos =>
          replace h := od_pos h h156
          refine wq_top h156 ?_
          refine wq_tsw rfl (by decide) (tgt := 309) rfl ?_
          refine wq_aload_n rfl rfl rfl ?_
          refine wq_iload rfl rfl p22 ?_
          obtain ⟨y157, e158, h⟩ := od_bindE h
          refine wd_virtZ (q := 0) (y := y157) (as := [36893488147419103232, y20.1]) rfl rfl rfl (by decide) (Nat.le_of_ble_eq_true rfl) (Nat.le_of_ble_eq_true rfl) rfl (Nat.le_of_ble_eq_true rfl) rfl (dkT_229 T27 p22 e158) (fun p159 T160 => ?_)
          exact wq_iret rfl (wm_zlt p159) (Nat.blt_eq.mpr p159) (wkOZ h T160 p159)
        replace h := od_neg h h156
        have i161 : y29 < 3 ∨ 21 ≤ y29 := by omega
        clear i155
        by_cases h162 : y29 = 21
        case pos =>
          replace h := od_pos h h162
          refine wq_top h162 ?_
          refine wq_tsw rfl (by decide) (tgt := 207) rfl ?_
          refine wq_aload_n rfl rfl rfl ?_
          refine wq_iconst rfl rfl ?_
          refine wq_iconst rfl rfl ?_
          refine wq_iconst rfl rfl ?_
          refine wq_iconst rfl rfl ?_
          obtain ⟨y163, e164, h⟩ := od_bindE h
          refine wd_virtI (q := 0) (y := y163) (as := [36893488147419103232, 0, 0, 0, 0]) rfl rfl rfl (by decide) (Nat.le_of_ble_eq_true rfl) (Nat.le_of_ble_eq_true rfl) rfl (Nat.le_of_ble_eq_true rfl) rfl (dkT_30 T27 (wm_zlt (by decide)) (wm_zlt (by decide)) (wm_zlt (by decide)) (wm_zlt (by decide)) e164) (fun p165 T166 => ?_)
          refine wq_istore rfl p165 (Nat.le_of_ble_eq_true rfl) (Or.inr ⟨_, rfl, (wq_notL p22)⟩) (L' := [36893488147419103232, y6.1, y10.1, ev_oL2i y17, y20.1, y163.1]) rfl ?_
          refine wq_aload_n rfl rfl rfl ?_
          refine wq_bipush rfl rfl ?_
          refine wq_iload rfl rfl p165 ?_
          refine wq_iconst rfl rfl ?_
          refine wq_iconst rfl rfl ?_
          obtain ⟨y167, e168, h⟩ := od_bindE h
          refine wd_virtN (q := 0) (y := y167) (as := [36893488147419103232, 26, y163.1, 0, 0]) rfl rfl rfl (by decide) (Nat.le_of_ble_eq_true rfl) (Nat.le_of_ble_eq_true rfl) rfl (Nat.le_of_ble_eq_true rfl) rfl (dkT_31 T166 (by decide) p165 (wm_zlt (by decide)) (wm_zlt (by decide)) e168) (fun T170 => ?_)
          refine wq_aload_n rfl rfl rfl ?_
          refine wq_iconst rfl rfl ?_
          refine wq_iconst rfl rfl ?_
          refine wq_iconst rfl rfl ?_
          refine wq_iconst rfl rfl ?_
          obtain ⟨y171, e172, h⟩ := od_bindE h
          refine wd_virtN (q := 0) (y := y171) (as := [36893488147419103232, 3, 0, 0, 0]) rfl rfl rfl (by decide) (Nat.le_of_ble_eq_true rfl) (Nat.le_of_ble_eq_true rfl) rfl (Nat.le_of_ble_eq_true rfl) rfl (dkT_31 T170 (by decide) (wm_zlt (by decide)) (wm_zlt (by decide)) (wm_zlt (by decide)) e172) (fun T174 => ?_)
          refine wq_iconst rfl rfl ?_
          exact wq_iret rfl (wm_zlt (by decide)) (Nat.blt_eq.mpr (by decide)) (wkOZ h T174 (by decide))
        replace h := od_neg h h162
        have i175 : y29 < 3 ∨ 22 ≤ y29 := by omega
        clear i161
        refine wq_tswD rfl p31 (by unfold ev_si ev_s; omega) rfl (tgt := 309) rfl ?_
        refine wq_aload_n rfl rfl rfl ?_
        refine wq_iload rfl rfl p22 ?_
        obtain ⟨y176, e177, h⟩ := od_bindE h
        refine wd_virtZ (q := 0) (y := y176) (as := [36893488147419103232, y20.1]) rfl rfl rfl (by decide) (Nat.le_of_ble_eq_true rfl) (Nat.le_of_ble_eq_true rfl) rfl (Nat.le_of_ble_eq_true rfl) rfl (dkT_229 T27 p22 e177) (fun p178 T179 => ?_)
        exact wq_iret rfl (wm_zlt p178) (Nat.blt_eq.mpr p178) (wkOZ h T179 p178)
      · replace h := od_pos h h28
        refine wq_iconst rfl rfl ?_
        exact wq_iret rfl (wm_zlt (by decide)) (Nat.blt_eq.mpr (by decide)) (wkOZ h T27 (by decide))
    · replace h := od_neg h h15
      refine wq_aload_n rfl rfl rfl ?_
      refine wq_bipush rfl rfl ?_
      refine wq_iconst rfl rfl ?_
      refine wq_iconst rfl rfl ?_
      refine wq_iconst rfl rfl ?_
      obtain ⟨y180, e181, h⟩ := od_bindE h
      refine wd_virtI (q := 0) (y := y180) (as := [36893488147419103232, 14, 0, 0, 0]) rfl rfl rfl (by decide) (Nat.le_of_ble_eq_true rfl) (Nat.le_of_ble_eq_true rfl) rfl (Nat.le_of_ble_eq_true rfl) rfl (dkT_30 T13 (by decide) (wm_zlt (by decide)) (wm_zlt (by decide)) (wm_zlt (by decide)) e181) (fun p182 T183 => ?_)
      refine wq_istore_n rfl p182 (Nat.le_of_ble_eq_true rfl) (Or.inr ⟨_, rfl, (wq_notL p8)⟩) (L' := [36893488147419103232, y6.1, y180.1, 73786976294838206464, 73786976294838206464, 73786976294838206464]) rfl ?_
      refine wq_aload_n rfl rfl rfl ?_
      refine wq_bipush rfl rfl ?_
      refine wq_aload_n rfl rfl rfl ?_
      refine wm_getI rfl (by decide) ?_
      refine wq_iconst rfl rfl ?_
      refine wq_iconst rfl rfl ?_
      obtain ⟨y184, e185, h⟩ := od_bindE h
      refine wd_virtN (q := 0) (y := y184) (as := [36893488147419103232, 21, y180.2 0 60, 0, 0]) rfl rfl rfl (by decide) (Nat.le_of_ble_eq_true rfl) (Nat.le_of_ble_eq_true rfl) rfl (Nat.le_of_ble_eq_true rfl) rfl (dkT_31 T183 (by decide) (T183.i 60 rfl) (wm_zlt (by decide)) (wm_zlt (by decide)) e185) (fun T187 => ?_)
      refine wq_aload_n rfl rfl rfl ?_
      refine wq_bipush rfl rfl ?_
      refine wq_iconst rfl rfl ?_
      refine wq_iconst rfl rfl ?_
      refine wq_iconst rfl rfl ?_
      obtain ⟨y188, e189, h⟩ := od_bindE h
      refine wd_virtN (q := 0) (y := y188) (as := [36893488147419103232, 7, 0, 0, 0]) rfl rfl rfl (by decide) (Nat.le_of_ble_eq_true rfl) (Nat.le_of_ble_eq_true rfl) rfl (Nat.le_of_ble_eq_true rfl) rfl (dkT_31 T187 (by decide) (wm_zlt (by decide)) (wm_zlt (by decide)) (wm_zlt (by decide)) e189) (fun T191 => ?_)
      refine wq_iconst rfl rfl ?_
      exact wq_iret rfl (wm_zlt (by decide)) (Nat.blt_eq.mpr (by decide)) (wkOZ h T191 (by decide))
  · replace h := od_neg h h5
    refine wq_aload_n rfl rfl rfl ?_
    obtain ⟨y192, e193, h⟩ := od_bindE h
    refine wd_virtZ (q := 0) (y := y192) (as := [36893488147419103232]) rfl rfl rfl (by decide) (Nat.le_of_ble_eq_true rfl) (Nat.le_of_ble_eq_true rfl) rfl (Nat.le_of_ble_eq_true rfl) rfl (dkT_212 T4 e193) (fun p194 T195 => ?_)
    exact wq_iret rfl (wm_zlt p194) (Nat.blt_eq.mpr p194) (wkOZ h T195 p194)
