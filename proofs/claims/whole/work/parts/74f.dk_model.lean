/-! ===== 74f: the reference: methods as functions on memories (by wip/whole2/law73.py, dc.py): 265 X12_forTwo, 267 X12_forDo, 266 X12_forThree, 268 X12_forEnd, 269 X12_inDo, 270 X12_inEnd, 271 X12_returned, 272 X12_functionDone, 37 X12_goOnStatement, 32 X12_goOn, 29 X12_readText, 46 X12_forget, 42 X12_keyHash, 41 X12_placeOf ===== -/
/-- X12_forTwo -/
def dk_265 (F : wq_F) (a0 : Nat) (a1 : Nat) (a2 : Nat) : Option (Nat × wq_F) :=
  (dk_213 F 44).bind fun y1 =>
  if y1.1 = 0 then
    some (0, y1.2)
  else
    (dk_31 y1.2 32 a0 a1 a2).bind fun y6 =>
    (dk_31 y6.2 3 0 0 0).bind fun y10 =>
    some (1, y10.2)
theorem dkT_265 {d : Nat} {F : wq_F} (hT : wm_T F) {a0 : Nat} (ha0 : a0 < 4294967296) {a1 : Nat} (ha1 : a1 < 4294967296) {a2 : Nat} (ha2 : a2 < 4294967296) {x : Nat × wq_F} (h : dk_265 F a0 a1 a2 = some x) : mq (d + 3 + 1) 265 [36893488147419103232, a0, a1, a2] wm_sh F (wkZ wm_T wm_sh x) := by
  have e : ev_ent [36893488147419103232, a0, a1, a2] = [36893488147419103232, a0, a1, a2] := by
    show 36893488147419103232 :: ev_ent [a0, a1, a2] = _
    rw [wm_entI ha0, wm_entI ha1, wm_entI ha2]
    rfl
  refine mq_of (maxL := 4) (rt := (some .boolean)) (code := (ev_un al_mX12_forTwo.2.2.2.2)) (L := [36893488147419103232, a0, a1, a2]) rfl (by rw [e]; exact Nat.le_of_ble_eq_true rfl) (by rw [e]; rfl) ?_
  unfold dk_265 at h
  refine wq_aload_n rfl rfl rfl ?_
  refine wq_bipush rfl rfl ?_
  obtain ⟨y1, e2, h⟩ := od_bindE h
  refine wd_virtZ (q := 0) (y := y1) (as := [36893488147419103232, 44]) rfl rfl rfl (by decide) (Nat.le_of_ble_eq_true rfl) (Nat.le_of_ble_eq_true rfl) rfl (Nat.le_of_ble_eq_true rfl) rfl (dkT_213 hT (by decide) e2) (fun p3 T4 => ?_)
  refine wq_if_ne rfl rfl (wm_zlt p3) (fun h5 => ?_) (fun h5 => ?_)
  · replace h := od_neg h h5
    refine wq_aload_n rfl rfl rfl ?_
    refine wq_bipush rfl rfl ?_
    refine wq_iload_n rfl rfl ha0 ?_
    refine wq_iload_n rfl rfl ha1 ?_
    refine wq_iload_n rfl rfl ha2 ?_
    obtain ⟨y6, e7, h⟩ := od_bindE h
    refine wd_virtN (q := 0) (y := y6) (as := [36893488147419103232, 32, a0, a1, a2]) rfl rfl rfl (by decide) (Nat.le_of_ble_eq_true rfl) (Nat.le_of_ble_eq_true rfl) rfl (Nat.le_of_ble_eq_true rfl) rfl (dkT_31 T4 (by decide) ha0 ha1 ha2 e7) (fun T9 => ?_)
    refine wq_aload_n rfl rfl rfl ?_
    refine wq_iconst rfl rfl ?_
    refine wq_iconst rfl rfl ?_
    refine wq_iconst rfl rfl ?_
    refine wq_iconst rfl rfl ?_
    obtain ⟨y10, e11, h⟩ := od_bindE h
    refine wd_virtN (q := 0) (y := y10) (as := [36893488147419103232, 3, 0, 0, 0]) rfl rfl rfl (by decide) (Nat.le_of_ble_eq_true rfl) (Nat.le_of_ble_eq_true rfl) rfl (Nat.le_of_ble_eq_true rfl) rfl (dkT_31 T9 (by decide) (wm_zlt (by decide)) (wm_zlt (by decide)) (wm_zlt (by decide)) e11) (fun T13 => ?_)
    refine wq_iconst rfl rfl ?_
    exact wq_iret rfl (wm_zlt (by decide)) (Nat.blt_eq.mpr (by decide)) (wkOZ h T13 (by decide))
  · replace h := od_pos h h5
    refine wq_iconst rfl rfl ?_
    exact wq_iret rfl (wm_zlt (by decide)) (Nat.blt_eq.mpr (by decide)) (wkOZ h T4 (by decide))
/-- X12_forDo -/
def dk_267 (F : wq_F) (a0 : Nat) (a1 : Nat) (a2 : Nat) : Option (Nat × wq_F) :=
  (dk_214 F 3).bind fun y1 =>
  if y1.1 = 0 then
    some (0, y1.2)
  else
    (dk_30 y1.2 39 0 0 a0).bind fun y6 =>
    (dk_30 y6.2 0 0 0 0).bind fun y10 =>
    (dk_227 y10.2).bind fun y14 =>
    od_let (((y14.2 0 56) + (4294967296 - 1)) % 4294967296) fun y18 =>
    (dk_30 y14.2 40 4294967295 a2 0).bind fun y21 =>
    od_g (y18 < 64) <|
    od_up y21.2 33 y18 y21.1 fun F26 =>
    (dk_31 F26 34 y10.1 a2 (F26 0 50)).bind fun y29 =>
    od_g (a1 < 1502) <|
    od_let (18446744073709551616 + y29.2 11 a1) fun y34 =>
    (dk_220 y29.2 (ev_oL2i y34) a2).bind fun y37 =>
    (dk_31 y37.2 0 0 0 0).bind fun y41 =>
    some (1, y41.2)
theorem dkT_267 {d : Nat} {F : wq_F} (hT : wm_T F) {a0 : Nat} (ha0 : a0 < 4294967296) {a1 : Nat} (ha1 : a1 < 4294967296) {a2 : Nat} (ha2 : a2 < 4294967296) {x : Nat × wq_F} (h : dk_267 F a0 a1 a2 = some x) : mq (d + 3 + 1) 267 [36893488147419103232, a0, a1, a2] wm_sh F (wkZ wm_T wm_sh x) := by
  have e : ev_ent [36893488147419103232, a0, a1, a2] = [36893488147419103232, a0, a1, a2] := by
    show 36893488147419103232 :: ev_ent [a0, a1, a2] = _
    rw [wm_entI ha0, wm_entI ha1, wm_entI ha2]
    rfl
  refine mq_of (maxL := 6) (rt := (some .boolean)) (code := (ev_un al_mX12_forDo.2.2.2.2)) (L := [36893488147419103232, a0, a1, a2, 73786976294838206464, 73786976294838206464]) rfl (by rw [e]; exact Nat.le_of_ble_eq_true rfl) (by rw [e]; rfl) ?_
  unfold dk_267 at h
  refine wq_aload_n rfl rfl rfl ?_
  refine wq_iconst rfl rfl ?_
  obtain ⟨y1, e2, h⟩ := od_bindE h
  refine wd_virtZ (q := 0) (y := y1) (as := [36893488147419103232, 3]) rfl rfl rfl (by decide) (Nat.le_of_ble_eq_true rfl) (Nat.le_of_ble_eq_true rfl) rfl (Nat.le_of_ble_eq_true rfl) rfl (dkT_214 hT (by decide) e2) (fun p3 T4 => ?_)
  refine wq_if_ne rfl rfl (wm_zlt p3) (fun h5 => ?_) (fun h5 => ?_)
  · replace h := od_neg h h5
    refine wq_aload_n rfl rfl rfl ?_
    refine wq_bipush rfl rfl ?_
    refine wq_iconst rfl rfl ?_
    refine wq_iconst rfl rfl ?_
    refine wq_iload_n rfl rfl ha0 ?_
    obtain ⟨y6, e7, h⟩ := od_bindE h
    refine wd_virtI (q := 0) (y := y6) (as := [36893488147419103232, 39, 0, 0, a0]) rfl rfl rfl (by decide) (Nat.le_of_ble_eq_true rfl) (Nat.le_of_ble_eq_true rfl) rfl (Nat.le_of_ble_eq_true rfl) rfl (dkT_30 T4 (by decide) (wm_zlt (by decide)) (wm_zlt (by decide)) ha0 e7) (fun p8 T9 => ?_)
    refine wq_istore rfl p8 (Nat.le_of_ble_eq_true rfl) (Or.inr ⟨_, rfl, (wq_notL ha2)⟩) (L' := [36893488147419103232, a0, a1, a2, y6.1, 73786976294838206464]) rfl ?_
    refine wq_aload_n rfl rfl rfl ?_
    refine wq_iconst rfl rfl ?_
    refine wq_iconst rfl rfl ?_
    refine wq_iconst rfl rfl ?_
    refine wq_iconst rfl rfl ?_
    obtain ⟨y10, e11, h⟩ := od_bindE h
    refine wd_virtI (q := 0) (y := y10) (as := [36893488147419103232, 0, 0, 0, 0]) rfl rfl rfl (by decide) (Nat.le_of_ble_eq_true rfl) (Nat.le_of_ble_eq_true rfl) rfl (Nat.le_of_ble_eq_true rfl) rfl (dkT_30 T9 (wm_zlt (by decide)) (wm_zlt (by decide)) (wm_zlt (by decide)) (wm_zlt (by decide)) e11) (fun p12 T13 => ?_)
    refine wq_istore rfl p12 (Nat.le_of_ble_eq_true rfl) (Or.inr ⟨_, rfl, (wq_notL p8)⟩) (L' := [36893488147419103232, a0, a1, a2, y6.1, y10.1]) rfl ?_
    refine wq_aload_n rfl rfl rfl ?_
    obtain ⟨y14, e15, h⟩ := od_bindE h
    refine wd_virtN (q := 0) (y := y14) (as := [36893488147419103232]) rfl rfl rfl (by decide) (Nat.le_of_ble_eq_true rfl) (Nat.le_of_ble_eq_true rfl) rfl (Nat.le_of_ble_eq_true rfl) rfl (dkT_227 T13 e15) (fun T17 => ?_)
    refine wq_aload_n rfl rfl rfl ?_
    refine wm_getR (v := 36893488147419103265) rfl (by decide) (T17.r 54 32 rfl) ?_
    refine wq_aload_n rfl rfl rfl ?_
    refine wm_getI rfl (by decide) ?_
    refine wq_iconst rfl rfl ?_
    refine wq_isubZ rfl (T17.i 56 rfl) (wm_zlt (by decide)) (z := ((y14.2 0 56) + (4294967296 - 1)) % 4294967296) rfl ?_
    obtain ⟨y18, e19, h⟩ := od_letE h
    refine wq_top e19.symm ?_
    have p20 : y18 < 4294967296 := wd_lt e19 (Nat.mod_lt _ (by decide))
    refine wq_aload_n rfl rfl rfl ?_
    refine wq_bipush rfl rfl ?_
    refine wq_iconst rfl rfl ?_
    refine wq_iload_n rfl rfl ha2 ?_
    refine wq_iconst rfl rfl ?_
    obtain ⟨y21, e22, h⟩ := od_bindE h
    refine wd_virtI (q := 0) (y := y21) (as := [36893488147419103232, 40, 4294967295, a2, 0]) rfl rfl rfl (by decide) (Nat.le_of_ble_eq_true rfl) (Nat.le_of_ble_eq_true rfl) rfl (Nat.le_of_ble_eq_true rfl) rfl (dkT_30 T17 (by decide) (by decide) ha2 (wm_zlt (by decide)) e22) (fun p23 T24 => ?_)
    obtain ⟨g25, h⟩ := od_gE h
    obtain ⟨F26, e27, h⟩ := od_upE h
    refine wd_iastore (q := 33) (n := 64) rfl rfl (by decide) g25 (by decide) p23 e27 ?_
    have T28 : wm_T F26 := wd_T e27 (T24.ua (k := 33) (kd := 1000) (n := 64) (i := y18) (v := y21.1) rfl (by decide) g25 (show y21.1 < 4294967296 from p23))
    refine wq_aload_n rfl rfl rfl ?_
    refine wq_bipush rfl rfl ?_
    refine wq_iload rfl rfl p12 ?_
    refine wq_iload_n rfl rfl ha2 ?_
    refine wq_aload_n rfl rfl rfl ?_
    refine wm_getI rfl (by decide) ?_
    obtain ⟨y29, e30, h⟩ := od_bindE h
    refine wd_virtN (q := 0) (y := y29) (as := [36893488147419103232, 34, y10.1, a2, F26 0 50]) rfl rfl rfl (by decide) (Nat.le_of_ble_eq_true rfl) (Nat.le_of_ble_eq_true rfl) rfl (Nat.le_of_ble_eq_true rfl) rfl (dkT_31 T28 (by decide) p12 ha2 (T28.i 50 rfl) e30) (fun T32 => ?_)
    refine wq_aload_n rfl rfl rfl ?_
    refine wq_aload_n rfl rfl rfl ?_
    refine wm_getR (v := 36893488147419103243) rfl (by decide) (T32.r 23 10 rfl) ?_
    refine wq_iload_n rfl rfl ha1 ?_
    obtain ⟨g33, h⟩ := od_gE h
    refine wq_laload (q := 11) (n := 1502) rfl rfl (by decide) g33 (by decide) ?_
    obtain ⟨y34, e35, h⟩ := od_letE h
    refine wq_top e35.symm ?_
    have p36 : ev_isL y34 = true := wd_ge e35 (wm_al_L (T32.al (k := 11) rfl g33))
    refine wq_l2i rfl p36 ?_
    refine wq_iload_n rfl rfl ha2 ?_
    obtain ⟨y37, e38, h⟩ := od_bindE h
    refine wd_virtN (q := 0) (y := y37) (as := [36893488147419103232, ev_oL2i y34, a2]) rfl rfl rfl (by decide) (Nat.le_of_ble_eq_true rfl) (Nat.le_of_ble_eq_true rfl) rfl (Nat.le_of_ble_eq_true rfl) rfl (dkT_220 T32 (Nat.mod_lt _ (by decide)) ha2 e38) (fun T40 => ?_)
    refine wq_aload_n rfl rfl rfl ?_
    refine wq_iconst rfl rfl ?_
    refine wq_iconst rfl rfl ?_
    refine wq_iconst rfl rfl ?_
    refine wq_iconst rfl rfl ?_
    obtain ⟨y41, e42, h⟩ := od_bindE h
    refine wd_virtN (q := 0) (y := y41) (as := [36893488147419103232, 0, 0, 0, 0]) rfl rfl rfl (by decide) (Nat.le_of_ble_eq_true rfl) (Nat.le_of_ble_eq_true rfl) rfl (Nat.le_of_ble_eq_true rfl) rfl (dkT_31 T40 (wm_zlt (by decide)) (wm_zlt (by decide)) (wm_zlt (by decide)) (wm_zlt (by decide)) e42) (fun T44 => ?_)
    refine wq_iconst rfl rfl ?_
    exact wq_iret rfl (wm_zlt (by decide)) (Nat.blt_eq.mpr (by decide)) (wkOZ h T44 (by decide))
  · replace h := od_pos h h5
    refine wq_iconst rfl rfl ?_
    exact wq_iret rfl (wm_zlt (by decide)) (Nat.blt_eq.mpr (by decide)) (wkOZ h T4 (by decide))
/-- X12_forThree -/
def dk_266 (F : wq_F) (a0 : Nat) (a1 : Nat) (a2 : Nat) : Option (Nat × wq_F) :=
  (dk_36 F 44).bind fun y1 =>
  if y1.1 = 0 then
    od_g (y1.2 0 40 < 1501) <|
    od_up y1.2 24 (y1.2 0 40) ((18446744073709551617 - 18446744073709551616)) fun F7 =>
    (dk_30 F7 4 (F7 0 40) 0 0).bind fun y10 =>
    od_let (((y10.2 0 40) + 1) % 4294967296) fun y14 =>
    od_up y10.2 0 40 y14 fun F17 =>
    (dk_267 F17 a0 a1 a2).bind fun y20 =>
    some (y20.1, y20.2)
  else
    (dk_31 y1.2 33 a0 a1 a2).bind fun y24 =>
    (dk_31 y24.2 3 0 0 0).bind fun y28 =>
    (dk_212 y28.2).bind fun y32 =>
    some (y32.1, y32.2)
theorem dkT_266 {d : Nat} {F : wq_F} (hT : wm_T F) {a0 : Nat} (ha0 : a0 < 4294967296) {a1 : Nat} (ha1 : a1 < 4294967296) {a2 : Nat} (ha2 : a2 < 4294967296) {x : Nat × wq_F} (h : dk_266 F a0 a1 a2 = some x) : mq (d + 4 + 1) 266 [36893488147419103232, a0, a1, a2] wm_sh F (wkZ wm_T wm_sh x) := by
  have e : ev_ent [36893488147419103232, a0, a1, a2] = [36893488147419103232, a0, a1, a2] := by
    show 36893488147419103232 :: ev_ent [a0, a1, a2] = _
    rw [wm_entI ha0, wm_entI ha1, wm_entI ha2]
    rfl
  refine mq_of (maxL := 5) (rt := (some .boolean)) (code := (ev_un al_mX12_forThree.2.2.2.2)) (L := [36893488147419103232, a0, a1, a2, 73786976294838206464]) rfl (by rw [e]; exact Nat.le_of_ble_eq_true rfl) (by rw [e]; rfl) ?_
  unfold dk_266 at h
  refine wq_aload_n rfl rfl rfl ?_
  refine wq_bipush rfl rfl ?_
  obtain ⟨y1, e2, h⟩ := od_bindE h
  refine wd_virtZ (q := 0) (y := y1) (as := [36893488147419103232, 44]) rfl rfl rfl (by decide) (Nat.le_of_ble_eq_true rfl) (Nat.le_of_ble_eq_true rfl) rfl (Nat.le_of_ble_eq_true rfl) rfl (dkT_36 hT (by decide) e2) (fun p3 T4 => ?_)
  refine wq_if_eq rfl rfl (wm_zlt p3) (fun h5 => ?_) (fun h5 => ?_)
  · replace h := od_pos h h5
    refine wq_aload_n rfl rfl rfl ?_
    refine wm_getR (v := 36893488147419103256) rfl (by decide) (T4.r 39 23 rfl) ?_
    refine wq_aload_n rfl rfl rfl ?_
    refine wm_getI rfl (by decide) ?_
    refine wq_lconst rfl ?_
    obtain ⟨g6, h⟩ := od_gE h
    obtain ⟨F7, e8, h⟩ := od_upE h
    refine wd_lastore (q := 24) (n := 1501) rfl rfl (by decide) g6 (by decide) rfl e8 ?_
    have T9 : wm_T F7 := wd_T e8 (T4.ua (k := 24) (kd := 1010) (n := 1501) (i := y1.2 0 40) (v := (18446744073709551617 - 18446744073709551616)) rfl (by decide) g6 (wm_subL rfl))
    refine wq_aload_n rfl rfl rfl ?_
    refine wq_iconst rfl rfl ?_
    refine wq_aload_n rfl rfl rfl ?_
    refine wm_getI rfl (by decide) ?_
    refine wq_iconst rfl rfl ?_
    refine wq_iconst rfl rfl ?_
    obtain ⟨y10, e11, h⟩ := od_bindE h
    refine wd_virtI (q := 0) (y := y10) (as := [36893488147419103232, 4, F7 0 40, 0, 0]) rfl rfl rfl (by decide) (Nat.le_of_ble_eq_true rfl) (Nat.le_of_ble_eq_true rfl) rfl (Nat.le_of_ble_eq_true rfl) rfl (dkT_30 T9 (by decide) (T9.i 40 rfl) (wm_zlt (by decide)) (wm_zlt (by decide)) e11) (fun p12 T13 => ?_)
    refine wq_istore rfl p12 (Nat.le_of_ble_eq_true rfl) (Or.inr ⟨_, rfl, (wq_notL ha2)⟩) (L' := [36893488147419103232, a0, a1, a2, y10.1]) rfl ?_
    refine wq_aload_n rfl rfl rfl ?_
    refine wq_dup rfl rfl ?_
    refine wm_getI rfl (by decide) ?_
    refine wq_iconst rfl rfl ?_
    refine wq_iaddZ rfl (T13.i 40 rfl) (wm_zlt (by decide)) (z := ((y10.2 0 40) + 1) % 4294967296) rfl ?_
    obtain ⟨y14, e15, h⟩ := od_letE h
    refine wq_top e15.symm ?_
    have p16 : y14 < 4294967296 := wd_lt e15 (Nat.mod_lt _ (by decide))
    obtain ⟨F17, e18, h⟩ := od_upE h
    refine wmE_put rfl (by decide) (wq_I p16) e18 ?_
    have T19 : wm_T F17 := wd_T e18 (T13.uf (f := 40) (c := 0) (v := y14) rfl (show y14 < 4294967296 from p16))
    refine wq_aload_n rfl rfl rfl ?_
    refine wq_iload_n rfl rfl ha0 ?_
    refine wq_iload_n rfl rfl ha1 ?_
    refine wq_iload_n rfl rfl ha2 ?_
    obtain ⟨y20, e21, h⟩ := od_bindE h
    refine wd_virtZ (q := 0) (y := y20) (as := [36893488147419103232, a0, a1, a2]) rfl rfl rfl (by decide) (Nat.le_of_ble_eq_true rfl) (Nat.le_of_ble_eq_true rfl) rfl (Nat.le_of_ble_eq_true rfl) rfl (dkT_267 T19 ha0 ha1 ha2 e21) (fun p22 T23 => ?_)
    exact wq_iret rfl (wm_zlt p22) (Nat.blt_eq.mpr p22) (wkOZ h T23 p22)
  · replace h := od_neg h h5
    refine wq_aload_n rfl rfl rfl ?_
    refine wq_bipush rfl rfl ?_
    refine wq_iload_n rfl rfl ha0 ?_
    refine wq_iload_n rfl rfl ha1 ?_
    refine wq_iload_n rfl rfl ha2 ?_
    obtain ⟨y24, e25, h⟩ := od_bindE h
    refine wd_virtN (q := 0) (y := y24) (as := [36893488147419103232, 33, a0, a1, a2]) rfl rfl rfl (by decide) (Nat.le_of_ble_eq_true rfl) (Nat.le_of_ble_eq_true rfl) rfl (Nat.le_of_ble_eq_true rfl) rfl (dkT_31 T4 (by decide) ha0 ha1 ha2 e25) (fun T27 => ?_)
    refine wq_aload_n rfl rfl rfl ?_
    refine wq_iconst rfl rfl ?_
    refine wq_iconst rfl rfl ?_
    refine wq_iconst rfl rfl ?_
    refine wq_iconst rfl rfl ?_
    obtain ⟨y28, e29, h⟩ := od_bindE h
    refine wd_virtN (q := 0) (y := y28) (as := [36893488147419103232, 3, 0, 0, 0]) rfl rfl rfl (by decide) (Nat.le_of_ble_eq_true rfl) (Nat.le_of_ble_eq_true rfl) rfl (Nat.le_of_ble_eq_true rfl) rfl (dkT_31 T27 (by decide) (wm_zlt (by decide)) (wm_zlt (by decide)) (wm_zlt (by decide)) e29) (fun T31 => ?_)
    refine wq_aload_n rfl rfl rfl ?_
    obtain ⟨y32, e33, h⟩ := od_bindE h
    refine wd_virtZ (q := 0) (y := y32) (as := [36893488147419103232]) rfl rfl rfl (by decide) (Nat.le_of_ble_eq_true rfl) (Nat.le_of_ble_eq_true rfl) rfl (Nat.le_of_ble_eq_true rfl) rfl (dkT_212 T31 e33) (fun p34 T35 => ?_)
    exact wq_iret rfl (wm_zlt p34) (Nat.blt_eq.mpr p34) (wkOZ h T35 p34)
/-- X12_forEnd -/
def dk_268 (n : Nat) (F : wq_F) (a0 : Nat) (a1 : Nat) (a2 : Nat) : Option (Nat × wq_F) :=
  (dk_214 F 6).bind fun y1 =>
  if y1.1 = 0 then
    some (0, y1.2)
  else
    (dk_225 y1.2 a2).bind fun y6 =>
    od_let (((y6.2 0 56) + (4294967296 - 1)) % 4294967296) fun y10 =>
    od_let (((y6.2 0 56) + (4294967296 - 1)) % 4294967296) fun y13 =>
    od_g (y13 < 64) <|
    (dk_30 y6.2 41 (y6.2 33 y13) a0 0).bind fun y17 =>
    od_g (y10 < 64) <|
    od_up y17.2 33 y10 y17.1 fun F22 =>
    (dk_228 n F22 a1).bind fun y25 =>
    (dk_30 y25.2 44 3 0 0).bind fun y29 =>
    some (1, y29.2)
theorem dkT_268 {d n : Nat} {F : wq_F} (hT : wm_T F) {a0 : Nat} (ha0 : a0 < 4294967296) {a1 : Nat} (ha1 : a1 < 4294967296) {a2 : Nat} (ha2 : a2 < 4294967296) {x : Nat × wq_F} (h : dk_268 n F a0 a1 a2 = some x) : mq (d + 3 + 1) 268 [36893488147419103232, a0, a1, a2] wm_sh F (wkZ wm_T wm_sh x) := by
  have e : ev_ent [36893488147419103232, a0, a1, a2] = [36893488147419103232, a0, a1, a2] := by
    show 36893488147419103232 :: ev_ent [a0, a1, a2] = _
    rw [wm_entI ha0, wm_entI ha1, wm_entI ha2]
    rfl
  refine mq_of (maxL := 5) (rt := (some .boolean)) (code := (ev_un al_mX12_forEnd.2.2.2.2)) (L := [36893488147419103232, a0, a1, a2, 73786976294838206464]) rfl (by rw [e]; exact Nat.le_of_ble_eq_true rfl) (by rw [e]; rfl) ?_
  unfold dk_268 at h
  refine wq_aload_n rfl rfl rfl ?_
  refine wq_bipush rfl rfl ?_
  obtain ⟨y1, e2, h⟩ := od_bindE h
  refine wd_virtZ (q := 0) (y := y1) (as := [36893488147419103232, 6]) rfl rfl rfl (by decide) (Nat.le_of_ble_eq_true rfl) (Nat.le_of_ble_eq_true rfl) rfl (Nat.le_of_ble_eq_true rfl) rfl (dkT_214 hT (by decide) e2) (fun p3 T4 => ?_)
  refine wq_if_ne rfl rfl (wm_zlt p3) (fun h5 => ?_) (fun h5 => ?_)
  · replace h := od_neg h h5
    refine wq_aload_n rfl rfl rfl ?_
    refine wq_iload_n rfl rfl ha2 ?_
    obtain ⟨y6, e7, h⟩ := od_bindE h
    refine wd_virtN (q := 0) (y := y6) (as := [36893488147419103232, a2]) rfl rfl rfl (by decide) (Nat.le_of_ble_eq_true rfl) (Nat.le_of_ble_eq_true rfl) rfl (Nat.le_of_ble_eq_true rfl) rfl (dkT_225 T4 ha2 e7) (fun T9 => ?_)
    refine wq_aload_n rfl rfl rfl ?_
    refine wm_getR (v := 36893488147419103265) rfl (by decide) (T9.r 54 32 rfl) ?_
    refine wq_aload_n rfl rfl rfl ?_
    refine wm_getI rfl (by decide) ?_
    refine wq_iconst rfl rfl ?_
    refine wq_isubZ rfl (T9.i 56 rfl) (wm_zlt (by decide)) (z := ((y6.2 0 56) + (4294967296 - 1)) % 4294967296) rfl ?_
    obtain ⟨y10, e11, h⟩ := od_letE h
    refine wq_top e11.symm ?_
    have p12 : y10 < 4294967296 := wd_lt e11 (Nat.mod_lt _ (by decide))
    refine wq_aload_n rfl rfl rfl ?_
    refine wq_bipush rfl rfl ?_
    refine wq_aload_n rfl rfl rfl ?_
    refine wm_getR (v := 36893488147419103265) rfl (by decide) (T9.r 54 32 rfl) ?_
    refine wq_aload_n rfl rfl rfl ?_
    refine wm_getI rfl (by decide) ?_
    refine wq_iconst rfl rfl ?_
    refine wq_isubZ rfl (T9.i 56 rfl) (wm_zlt (by decide)) (z := ((y6.2 0 56) + (4294967296 - 1)) % 4294967296) rfl ?_
    obtain ⟨y13, e14, h⟩ := od_letE h
    refine wq_top e14.symm ?_
    have p15 : y13 < 4294967296 := wd_lt e14 (Nat.mod_lt _ (by decide))
    obtain ⟨g16, h⟩ := od_gE h
    refine wq_iaload (q := 33) (n := 64) rfl rfl (by decide) g16 (by decide) ?_
    refine wq_iload_n rfl rfl ha0 ?_
    refine wq_iconst rfl rfl ?_
    obtain ⟨y17, e18, h⟩ := od_bindE h
    refine wd_virtI (q := 0) (y := y17) (as := [36893488147419103232, 41, y6.2 33 y13, a0, 0]) rfl rfl rfl (by decide) (Nat.le_of_ble_eq_true rfl) (Nat.le_of_ble_eq_true rfl) rfl (Nat.le_of_ble_eq_true rfl) rfl (dkT_30 T9 (by decide) (T9.ai (k := 33) rfl g16) ha0 (wm_zlt (by decide)) e18) (fun p19 T20 => ?_)
    obtain ⟨g21, h⟩ := od_gE h
    obtain ⟨F22, e23, h⟩ := od_upE h
    refine wd_iastore (q := 33) (n := 64) rfl rfl (by decide) g21 (by decide) p19 e23 ?_
    have T24 : wm_T F22 := wd_T e23 (T20.ua (k := 33) (kd := 1000) (n := 64) (i := y10) (v := y17.1) rfl (by decide) g21 (show y17.1 < 4294967296 from p19))
    refine wq_aload_n rfl rfl rfl ?_
    refine wq_iload_n rfl rfl ha1 ?_
    obtain ⟨y25, e26, h⟩ := od_bindE h
    refine wd_virtN (q := 0) (y := y25) (as := [36893488147419103232, a1]) rfl rfl rfl (by decide) (Nat.le_of_ble_eq_true rfl) (Nat.le_of_ble_eq_true rfl) rfl (Nat.le_of_ble_eq_true rfl) rfl (dkT_228 T24 ha1 e26) (fun T28 => ?_)
    refine wq_aload_n rfl rfl rfl ?_
    refine wq_bipush rfl rfl ?_
    refine wq_iconst rfl rfl ?_
    refine wq_iconst rfl rfl ?_
    refine wq_iconst rfl rfl ?_
    obtain ⟨y29, e30, h⟩ := od_bindE h
    refine wd_virtI (q := 0) (y := y29) (as := [36893488147419103232, 44, 3, 0, 0]) rfl rfl rfl (by decide) (Nat.le_of_ble_eq_true rfl) (Nat.le_of_ble_eq_true rfl) rfl (Nat.le_of_ble_eq_true rfl) rfl (dkT_30 T28 (by decide) (by decide) (wm_zlt (by decide)) (wm_zlt (by decide)) e30) (fun p31 T32 => ?_)
    refine wq_istore rfl p31 (Nat.le_of_ble_eq_true rfl) (Or.inr ⟨_, rfl, (wq_notL ha2)⟩) (L' := [36893488147419103232, a0, a1, a2, y29.1]) rfl ?_
    refine wq_iconst rfl rfl ?_
    exact wq_iret rfl (wm_zlt (by decide)) (Nat.blt_eq.mpr (by decide)) (wkOZ h T32 (by decide))
  · replace h := od_pos h h5
    refine wq_iconst rfl rfl ?_
    exact wq_iret rfl (wm_zlt (by decide)) (Nat.blt_eq.mpr (by decide)) (wkOZ h T4 (by decide))
def dk_269_114b (n : Nat) (r114 : wq_F → Nat → Nat → Nat → Nat → Option (Nat × wq_F)) (F : wq_F) (v2 : Nat) (v4 : Nat) (v5 : Nat) (v8 : Nat) : Option (Nat × wq_F) :=
  if ev_s v8 < ev_s v4 then
    od_let ((v2 + (ev_oMul 2 v8)) % 4294967296) fun y6 =>
    od_g (y6 < 1502) <|
    od_let (18446744073709551616 + F 11 y6) fun y10 =>
    (dk_220 F (ev_oL2i y10) ((v5 + v8) % 4294967296)).bind fun y13 =>
    od_let ((v8 + 1) % 4294967296) fun y17 =>
    r114 y13.2 v2 v4 v5 y17
  else
    (dk_31 F 0 0 0 0).bind fun y2 =>
    some (1, y2.2)
theorem dk_269_114bT {d n : Nat} {r114 : wq_F → Nat → Nat → Nat → Nat → Option (Nat × wq_F)} (hr114 : ∀ ⦃u1 : Nat⦄ ⦃u3 : Nat⦄ ⦃u6 : Nat⦄ ⦃u7 : Nat⦄ ⦃F : wq_F⦄ (hT : wm_T F) ⦃v2 : Nat⦄ (hv2 : v2 < 4294967296) ⦃v4 : Nat⦄ (hv4 : v4 < 4294967296) ⦃v5 : Nat⦄ (hv5 : v5 < 4294967296) ⦃v8 : Nat⦄ (hv8 : v8 < 4294967296) (hu1 : ev_isL u1 = false) (hu3 : ev_isL u3 = false) (hu6 : ev_isL u6 = false) (hu7 : ev_isL u7 = false) ⦃x : Nat × wq_F⦄ (h : r114 F v2 v4 v5 v8 = some x), wq (wq_cf (d + 3)) (ev_un al_mX12_inDo.2.2.2.2) (some .boolean) 114 [36893488147419103232, u1, v2, u3, v4, v5, u6, u7, v8] [] wm_sh F 0 0 (wkZ wm_T wm_sh x)) : ∀ ⦃u1 : Nat⦄ ⦃u3 : Nat⦄ ⦃u6 : Nat⦄ ⦃u7 : Nat⦄ ⦃F : wq_F⦄ (hT : wm_T F) ⦃v2 : Nat⦄ (hv2 : v2 < 4294967296) ⦃v4 : Nat⦄ (hv4 : v4 < 4294967296) ⦃v5 : Nat⦄ (hv5 : v5 < 4294967296) ⦃v8 : Nat⦄ (hv8 : v8 < 4294967296) (hu1 : ev_isL u1 = false) (hu3 : ev_isL u3 = false) (hu6 : ev_isL u6 = false) (hu7 : ev_isL u7 = false) ⦃x : Nat × wq_F⦄ (h : dk_269_114b n r114 F v2 v4 v5 v8 = some x), wq (wq_cf (d + 3)) (ev_un al_mX12_inDo.2.2.2.2) (some .boolean) 114 [36893488147419103232, u1, v2, u3, v4, v5, u6, u7, v8] [] wm_sh F 0 0 (wkZ wm_T wm_sh x) := by
  intro u1 u3 u6 u7 F hT v2 hv2 v4 hv4 v5 hv5 v8 hv8 hu1 hu3 hu6 hu7 x h
  unfold dk_269_114b at h
  refine wq_iload rfl rfl hv8 ?_
  refine wq_iload rfl rfl hv4 ?_
  refine wq_ic_ge rfl rfl hv8 hv4 (fun h1 => ?_) (fun h1 => ?_)
  · replace h := od_neg h (Nat.not_lt.mpr h1)
    refine wq_aload_n rfl rfl rfl ?_
    refine wq_iconst rfl rfl ?_
    refine wq_iconst rfl rfl ?_
    refine wq_iconst rfl rfl ?_
    refine wq_iconst rfl rfl ?_
    obtain ⟨y2, e3, h⟩ := od_bindE h
    refine wd_virtN (q := 0) (y := y2) (as := [36893488147419103232, 0, 0, 0, 0]) rfl rfl rfl (by decide) (Nat.le_of_ble_eq_true rfl) (Nat.le_of_ble_eq_true rfl) rfl (Nat.le_of_ble_eq_true rfl) rfl (dkT_31 hT (wm_zlt (by decide)) (wm_zlt (by decide)) (wm_zlt (by decide)) (wm_zlt (by decide)) e3) (fun T5 => ?_)
    refine wq_iconst rfl rfl ?_
    exact wq_iret rfl (wm_zlt (by decide)) (Nat.blt_eq.mpr (by decide)) (wkOZ h T5 (by decide))
  · replace h := od_pos h h1
    refine wq_aload_n rfl rfl rfl ?_
    refine wq_aload_n rfl rfl rfl ?_
    refine wm_getR (v := 36893488147419103243) rfl (by decide) (hT.r 23 10 rfl) ?_
    refine wq_iload_n rfl rfl hv2 ?_
    refine wq_iconst rfl rfl ?_
    refine wq_iload rfl rfl hv8 ?_
    refine wq_imul rfl (by decide) hv8 ?_
    refine wq_iaddZ rfl hv2 (Nat.mod_lt _ (by decide)) (z := (v2 + (ev_oMul 2 v8)) % 4294967296) rfl ?_
    obtain ⟨y6, e7, h⟩ := od_letE h
    refine wq_top e7.symm ?_
    have p8 : y6 < 4294967296 := wd_lt e7 (Nat.mod_lt _ (by decide))
    obtain ⟨g9, h⟩ := od_gE h
    refine wq_laload (q := 11) (n := 1502) rfl rfl (by decide) g9 (by decide) ?_
    obtain ⟨y10, e11, h⟩ := od_letE h
    refine wq_top e11.symm ?_
    have p12 : ev_isL y10 = true := wd_ge e11 (wm_al_L (hT.al (k := 11) rfl g9))
    refine wq_l2i rfl p12 ?_
    refine wq_iload rfl rfl hv5 ?_
    refine wq_iload rfl rfl hv8 ?_
    refine wq_iaddZ rfl hv5 hv8 (z := (v5 + v8) % 4294967296) rfl ?_
    obtain ⟨y13, e14, h⟩ := od_bindE h
    refine wd_virtN (q := 0) (y := y13) (as := [36893488147419103232, ev_oL2i y10, (v5 + v8) % 4294967296]) rfl rfl rfl (by decide) (Nat.le_of_ble_eq_true rfl) (Nat.le_of_ble_eq_true rfl) rfl (Nat.le_of_ble_eq_true rfl) rfl (dkT_220 hT (Nat.mod_lt _ (by decide)) (Nat.mod_lt _ (by decide)) e14) (fun T16 => ?_)
    obtain ⟨y17, e18, h⟩ := od_letE h
    have p19 : y17 < 4294967296 := wd_lt e18 (Nat.mod_lt _ (by decide))
    refine wq_iincZ rfl rfl hv8 (Or.inr ⟨_, rfl, hu7⟩) rfl (z := y17) e18.symm (L' := [36893488147419103232, u1, v2, u3, v4, v5, u6, u7, y17]) rfl ?_
    refine wq_goto rfl rfl ?_
    exact hr114 T16 hv2 hv4 hv5 p19 hu1 hu3 hu6 hu7 h
def dk_269_114 (n : Nat) : Nat → wq_F → Nat → Nat → Nat → Nat → Option (Nat × wq_F)
  | 0 => fun _ _ _ _ _ => none
  | g + 1 => dk_269_114b n (dk_269_114 n g)
theorem dk_269_114T {d n : Nat} : ∀ g : Nat, ∀ ⦃u1 : Nat⦄ ⦃u3 : Nat⦄ ⦃u6 : Nat⦄ ⦃u7 : Nat⦄ ⦃F : wq_F⦄ (hT : wm_T F) ⦃v2 : Nat⦄ (hv2 : v2 < 4294967296) ⦃v4 : Nat⦄ (hv4 : v4 < 4294967296) ⦃v5 : Nat⦄ (hv5 : v5 < 4294967296) ⦃v8 : Nat⦄ (hv8 : v8 < 4294967296) (hu1 : ev_isL u1 = false) (hu3 : ev_isL u3 = false) (hu6 : ev_isL u6 = false) (hu7 : ev_isL u7 = false) ⦃x : Nat × wq_F⦄ (h : dk_269_114 n g F v2 v4 v5 v8 = some x), wq (wq_cf (d + 3)) (ev_un al_mX12_inDo.2.2.2.2) (some .boolean) 114 [36893488147419103232, u1, v2, u3, v4, v5, u6, u7, v8] [] wm_sh F 0 0 (wkZ wm_T wm_sh x)
  | 0 => by
    intro u1 u3 u6 u7 F hT v2 hv2 v4 hv4 v5 hv5 v8 hv8 hu1 hu3 hu6 hu7 x h
    cases h
  | g + 1 => dk_269_114bT (dk_269_114T g)
/-- X12_inDo -/
def dk_269 (n : Nat) (F : wq_F) (a0 : Nat) (a1 : Nat) (a2 : Nat) : Option (Nat × wq_F) :=
  (dk_214 F 3).bind fun y1 =>
  if y1.1 = 0 then
    some (0, y1.2)
  else
    (dk_30 y1.2 17 0 0 a0).bind fun y6 =>
    (dk_30 y6.2 18 3 0 0).bind fun y10 =>
    (dk_30 y10.2 0 0 0 0).bind fun y14 =>
    (dk_30 y14.2 42 (ev_oDiv a2 100) 0 a0).bind fun y18 =>
    (dk_227 y18.2).bind fun y22 =>
    od_let (((y22.2 0 56) + (4294967296 - 1)) % 4294967296) fun y26 =>
    od_let (((ev_oMul (ev_oDiv a2 100) 100) + (ev_oRem a2 100)) % 4294967296) fun y29 =>
    (dk_30 y22.2 43 4294967295 y29 0).bind fun y32 =>
    od_g (y26 < 64) <|
    od_up y32.2 33 y26 y32.1 fun F37 =>
    (dk_31 F37 36 y14.1 (ev_oRem a2 100) (F37 0 50)).bind fun y40 =>
    dk_269_114 n n y40.2 a1 (ev_oDiv a2 100) (ev_oRem a2 100) 0
theorem dkT_269 {d n : Nat} {F : wq_F} (hT : wm_T F) {a0 : Nat} (ha0 : a0 < 4294967296) {a1 : Nat} (ha1 : a1 < 4294967296) {a2 : Nat} (ha2 : a2 < 4294967296) {x : Nat × wq_F} (h : dk_269 n F a0 a1 a2 = some x) : mq (d + 3 + 1) 269 [36893488147419103232, a0, a1, a2] wm_sh F (wkZ wm_T wm_sh x) := by
  have e : ev_ent [36893488147419103232, a0, a1, a2] = [36893488147419103232, a0, a1, a2] := by
    show 36893488147419103232 :: ev_ent [a0, a1, a2] = _
    rw [wm_entI ha0, wm_entI ha1, wm_entI ha2]
    rfl
  refine mq_of (maxL := 9) (rt := (some .boolean)) (code := (ev_un al_mX12_inDo.2.2.2.2)) (L := [36893488147419103232, a0, a1, a2, 73786976294838206464, 73786976294838206464, 73786976294838206464, 73786976294838206464, 73786976294838206464]) rfl (by rw [e]; exact Nat.le_of_ble_eq_true rfl) (by rw [e]; rfl) ?_
  unfold dk_269 at h
  refine wq_aload_n rfl rfl rfl ?_
  refine wq_iconst rfl rfl ?_
  obtain ⟨y1, e2, h⟩ := od_bindE h
  refine wd_virtZ (q := 0) (y := y1) (as := [36893488147419103232, 3]) rfl rfl rfl (by decide) (Nat.le_of_ble_eq_true rfl) (Nat.le_of_ble_eq_true rfl) rfl (Nat.le_of_ble_eq_true rfl) rfl (dkT_214 hT (by decide) e2) (fun p3 T4 => ?_)
  refine wq_if_ne rfl rfl (wm_zlt p3) (fun h5 => ?_) (fun h5 => ?_)
  · replace h := od_neg h h5
    refine wq_iload_n rfl rfl ha2 ?_
    refine wq_bipush rfl rfl ?_
    refine wq_idiv rfl ha2 (by decide) (by decide) ?_
    refine wq_istore rfl (wd_idiv _ _) (Nat.le_of_ble_eq_true rfl) (Or.inr ⟨_, rfl, (wq_notL ha2)⟩) (L' := [36893488147419103232, a0, a1, a2, ev_oDiv a2 100, 73786976294838206464, 73786976294838206464, 73786976294838206464, 73786976294838206464]) rfl ?_
    refine wq_iload_n rfl rfl ha2 ?_
    refine wq_bipush rfl rfl ?_
    refine wq_irem rfl ha2 (by decide) (by decide) ?_
    refine wq_istore rfl (wd_irem _ _) (Nat.le_of_ble_eq_true rfl) (Or.inr ⟨_, rfl, (wq_notL (wd_idiv _ _))⟩) (L' := [36893488147419103232, a0, a1, a2, ev_oDiv a2 100, ev_oRem a2 100, 73786976294838206464, 73786976294838206464, 73786976294838206464]) rfl ?_
    refine wq_aload_n rfl rfl rfl ?_
    refine wq_bipush rfl rfl ?_
    refine wq_iconst rfl rfl ?_
    refine wq_iconst rfl rfl ?_
    refine wq_iload_n rfl rfl ha0 ?_
    obtain ⟨y6, e7, h⟩ := od_bindE h
    refine wd_virtI (q := 0) (y := y6) (as := [36893488147419103232, 17, 0, 0, a0]) rfl rfl rfl (by decide) (Nat.le_of_ble_eq_true rfl) (Nat.le_of_ble_eq_true rfl) rfl (Nat.le_of_ble_eq_true rfl) rfl (dkT_30 T4 (by decide) (wm_zlt (by decide)) (wm_zlt (by decide)) ha0 e7) (fun p8 T9 => ?_)
    refine wq_istore rfl p8 (Nat.le_of_ble_eq_true rfl) (Or.inr ⟨_, rfl, (wq_notL (wd_irem _ _))⟩) (L' := [36893488147419103232, a0, a1, a2, ev_oDiv a2 100, ev_oRem a2 100, y6.1, 73786976294838206464, 73786976294838206464]) rfl ?_
    refine wq_aload_n rfl rfl rfl ?_
    refine wq_bipush rfl rfl ?_
    refine wq_iconst rfl rfl ?_
    refine wq_iconst rfl rfl ?_
    refine wq_iconst rfl rfl ?_
    obtain ⟨y10, e11, h⟩ := od_bindE h
    refine wd_virtI (q := 0) (y := y10) (as := [36893488147419103232, 18, 3, 0, 0]) rfl rfl rfl (by decide) (Nat.le_of_ble_eq_true rfl) (Nat.le_of_ble_eq_true rfl) rfl (Nat.le_of_ble_eq_true rfl) rfl (dkT_30 T9 (by decide) (by decide) (wm_zlt (by decide)) (wm_zlt (by decide)) e11) (fun p12 T13 => ?_)
    refine wq_istore rfl p12 (Nat.le_of_ble_eq_true rfl) (Or.inr ⟨_, rfl, (wq_notL (wd_irem _ _))⟩) (L' := [36893488147419103232, a0, a1, a2, ev_oDiv a2 100, ev_oRem a2 100, y10.1, 73786976294838206464, 73786976294838206464]) rfl ?_
    refine wq_aload_n rfl rfl rfl ?_
    refine wq_iconst rfl rfl ?_
    refine wq_iconst rfl rfl ?_
    refine wq_iconst rfl rfl ?_
    refine wq_iconst rfl rfl ?_
    obtain ⟨y14, e15, h⟩ := od_bindE h
    refine wd_virtI (q := 0) (y := y14) (as := [36893488147419103232, 0, 0, 0, 0]) rfl rfl rfl (by decide) (Nat.le_of_ble_eq_true rfl) (Nat.le_of_ble_eq_true rfl) rfl (Nat.le_of_ble_eq_true rfl) rfl (dkT_30 T13 (wm_zlt (by decide)) (wm_zlt (by decide)) (wm_zlt (by decide)) (wm_zlt (by decide)) e15) (fun p16 T17 => ?_)
    refine wq_istore rfl p16 (Nat.le_of_ble_eq_true rfl) (Or.inr ⟨_, rfl, (wq_notL p12)⟩) (L' := [36893488147419103232, a0, a1, a2, ev_oDiv a2 100, ev_oRem a2 100, y10.1, y14.1, 73786976294838206464]) rfl ?_
    refine wq_aload_n rfl rfl rfl ?_
    refine wq_bipush rfl rfl ?_
    refine wq_iload rfl rfl (wd_idiv _ _) ?_
    refine wq_iconst rfl rfl ?_
    refine wq_iload_n rfl rfl ha0 ?_
    obtain ⟨y18, e19, h⟩ := od_bindE h
    refine wd_virtI (q := 0) (y := y18) (as := [36893488147419103232, 42, ev_oDiv a2 100, 0, a0]) rfl rfl rfl (by decide) (Nat.le_of_ble_eq_true rfl) (Nat.le_of_ble_eq_true rfl) rfl (Nat.le_of_ble_eq_true rfl) rfl (dkT_30 T17 (by decide) (wd_idiv _ _) (wm_zlt (by decide)) ha0 e19) (fun p20 T21 => ?_)
    refine wq_istore rfl p20 (Nat.le_of_ble_eq_true rfl) (Or.inr ⟨_, rfl, (wq_notL (wd_irem _ _))⟩) (L' := [36893488147419103232, a0, a1, a2, ev_oDiv a2 100, ev_oRem a2 100, y18.1, y14.1, 73786976294838206464]) rfl ?_
    refine wq_aload_n rfl rfl rfl ?_
    obtain ⟨y22, e23, h⟩ := od_bindE h
    refine wd_virtN (q := 0) (y := y22) (as := [36893488147419103232]) rfl rfl rfl (by decide) (Nat.le_of_ble_eq_true rfl) (Nat.le_of_ble_eq_true rfl) rfl (Nat.le_of_ble_eq_true rfl) rfl (dkT_227 T21 e23) (fun T25 => ?_)
    refine wq_aload_n rfl rfl rfl ?_
    refine wm_getR (v := 36893488147419103265) rfl (by decide) (T25.r 54 32 rfl) ?_
    refine wq_aload_n rfl rfl rfl ?_
    refine wm_getI rfl (by decide) ?_
    refine wq_iconst rfl rfl ?_
    refine wq_isubZ rfl (T25.i 56 rfl) (wm_zlt (by decide)) (z := ((y22.2 0 56) + (4294967296 - 1)) % 4294967296) rfl ?_
    obtain ⟨y26, e27, h⟩ := od_letE h
    refine wq_top e27.symm ?_
    have p28 : y26 < 4294967296 := wd_lt e27 (Nat.mod_lt _ (by decide))
    refine wq_aload_n rfl rfl rfl ?_
    refine wq_bipush rfl rfl ?_
    refine wq_iconst rfl rfl ?_
    refine wq_iload rfl rfl (wd_idiv _ _) ?_
    refine wq_bipush rfl rfl ?_
    refine wq_imul rfl (wd_idiv _ _) (by decide) ?_
    refine wq_iload rfl rfl (wd_irem _ _) ?_
    refine wq_iaddZ rfl (Nat.mod_lt _ (by decide)) (wd_irem _ _) (z := ((ev_oMul (ev_oDiv a2 100) 100) + (ev_oRem a2 100)) % 4294967296) rfl ?_
    obtain ⟨y29, e30, h⟩ := od_letE h
    refine wq_top e30.symm ?_
    have p31 : y29 < 4294967296 := wd_lt e30 (Nat.mod_lt _ (by decide))
    refine wq_iconst rfl rfl ?_
    obtain ⟨y32, e33, h⟩ := od_bindE h
    refine wd_virtI (q := 0) (y := y32) (as := [36893488147419103232, 43, 4294967295, y29, 0]) rfl rfl rfl (by decide) (Nat.le_of_ble_eq_true rfl) (Nat.le_of_ble_eq_true rfl) rfl (Nat.le_of_ble_eq_true rfl) rfl (dkT_30 T25 (by decide) (by decide) p31 (wm_zlt (by decide)) e33) (fun p34 T35 => ?_)
    obtain ⟨g36, h⟩ := od_gE h
    obtain ⟨F37, e38, h⟩ := od_upE h
    refine wd_iastore (q := 33) (n := 64) rfl rfl (by decide) g36 (by decide) p34 e38 ?_
    have T39 : wm_T F37 := wd_T e38 (T35.ua (k := 33) (kd := 1000) (n := 64) (i := y26) (v := y32.1) rfl (by decide) g36 (show y32.1 < 4294967296 from p34))
    refine wq_aload_n rfl rfl rfl ?_
    refine wq_bipush rfl rfl ?_
    refine wq_iload rfl rfl p16 ?_
    refine wq_iload rfl rfl (wd_irem _ _) ?_
    refine wq_aload_n rfl rfl rfl ?_
    refine wm_getI rfl (by decide) ?_
    obtain ⟨y40, e41, h⟩ := od_bindE h
    refine wd_virtN (q := 0) (y := y40) (as := [36893488147419103232, 36, y14.1, ev_oRem a2 100, F37 0 50]) rfl rfl rfl (by decide) (Nat.le_of_ble_eq_true rfl) (Nat.le_of_ble_eq_true rfl) rfl (Nat.le_of_ble_eq_true rfl) rfl (dkT_31 T39 (by decide) p16 (wd_irem _ _) (T39.i 50 rfl) e41) (fun T43 => ?_)
    refine wq_iconst rfl rfl ?_
    refine wq_istore rfl (wm_zlt (by decide)) (Nat.le_of_ble_eq_true rfl) (Or.inr ⟨_, rfl, (wq_notL p16)⟩) (L' := [36893488147419103232, a0, a1, a2, ev_oDiv a2 100, ev_oRem a2 100, y18.1, y14.1, 0]) rfl ?_
    exact dk_269_114T n T43 ha1 (wd_idiv _ _) (wd_irem _ _) (wm_zlt (by decide)) (wq_notL ha0) (wq_notL ha2) (wq_notL p20) (wq_notL p16) h
  · replace h := od_pos h h5
    refine wq_iconst rfl rfl ?_
    exact wq_iret rfl (wm_zlt (by decide)) (Nat.blt_eq.mpr (by decide)) (wkOZ h T4 (by decide))
/-- X12_inEnd -/
def dk_270 (n : Nat) (F : wq_F) (a0 : Nat) (a1 : Nat) (a2 : Nat) : Option (Nat × wq_F) :=
  (dk_214 F 6).bind fun y1 =>
  if y1.1 = 0 then
    some (0, y1.2)
  else
    (dk_225 y1.2 a2).bind fun y6 =>
    (dk_30 y6.2 21 a0 0 0).bind fun y10 =>
    (dk_228 n y10.2 a1).bind fun y14 =>
    (dk_30 y14.2 44 3 0 0).bind fun y18 =>
    some (1, y18.2)
theorem dkT_270 {d n : Nat} {F : wq_F} (hT : wm_T F) {a0 : Nat} (ha0 : a0 < 4294967296) {a1 : Nat} (ha1 : a1 < 4294967296) {a2 : Nat} (ha2 : a2 < 4294967296) {x : Nat × wq_F} (h : dk_270 n F a0 a1 a2 = some x) : mq (d + 3 + 1) 270 [36893488147419103232, a0, a1, a2] wm_sh F (wkZ wm_T wm_sh x) := by
  have e : ev_ent [36893488147419103232, a0, a1, a2] = [36893488147419103232, a0, a1, a2] := by
    show 36893488147419103232 :: ev_ent [a0, a1, a2] = _
    rw [wm_entI ha0, wm_entI ha1, wm_entI ha2]
    rfl
  refine mq_of (maxL := 5) (rt := (some .boolean)) (code := (ev_un al_mX12_inEnd.2.2.2.2)) (L := [36893488147419103232, a0, a1, a2, 73786976294838206464]) rfl (by rw [e]; exact Nat.le_of_ble_eq_true rfl) (by rw [e]; rfl) ?_
  unfold dk_270 at h
  refine wq_aload_n rfl rfl rfl ?_
  refine wq_bipush rfl rfl ?_
  obtain ⟨y1, e2, h⟩ := od_bindE h
  refine wd_virtZ (q := 0) (y := y1) (as := [36893488147419103232, 6]) rfl rfl rfl (by decide) (Nat.le_of_ble_eq_true rfl) (Nat.le_of_ble_eq_true rfl) rfl (Nat.le_of_ble_eq_true rfl) rfl (dkT_214 hT (by decide) e2) (fun p3 T4 => ?_)
  refine wq_if_ne rfl rfl (wm_zlt p3) (fun h5 => ?_) (fun h5 => ?_)
  · replace h := od_neg h h5
    refine wq_aload_n rfl rfl rfl ?_
    refine wq_iload_n rfl rfl ha2 ?_
    obtain ⟨y6, e7, h⟩ := od_bindE h
    refine wd_virtN (q := 0) (y := y6) (as := [36893488147419103232, a2]) rfl rfl rfl (by decide) (Nat.le_of_ble_eq_true rfl) (Nat.le_of_ble_eq_true rfl) rfl (Nat.le_of_ble_eq_true rfl) rfl (dkT_225 T4 ha2 e7) (fun T9 => ?_)
    refine wq_aload_n rfl rfl rfl ?_
    refine wq_bipush rfl rfl ?_
    refine wq_iload_n rfl rfl ha0 ?_
    refine wq_iconst rfl rfl ?_
    refine wq_iconst rfl rfl ?_
    obtain ⟨y10, e11, h⟩ := od_bindE h
    refine wd_virtI (q := 0) (y := y10) (as := [36893488147419103232, 21, a0, 0, 0]) rfl rfl rfl (by decide) (Nat.le_of_ble_eq_true rfl) (Nat.le_of_ble_eq_true rfl) rfl (Nat.le_of_ble_eq_true rfl) rfl (dkT_30 T9 (by decide) ha0 (wm_zlt (by decide)) (wm_zlt (by decide)) e11) (fun p12 T13 => ?_)
    refine wq_istore rfl p12 (Nat.le_of_ble_eq_true rfl) (Or.inr ⟨_, rfl, (wq_notL ha2)⟩) (L' := [36893488147419103232, a0, a1, a2, y10.1]) rfl ?_
    refine wq_aload_n rfl rfl rfl ?_
    refine wq_iload_n rfl rfl ha1 ?_
    obtain ⟨y14, e15, h⟩ := od_bindE h
    refine wd_virtN (q := 0) (y := y14) (as := [36893488147419103232, a1]) rfl rfl rfl (by decide) (Nat.le_of_ble_eq_true rfl) (Nat.le_of_ble_eq_true rfl) rfl (Nat.le_of_ble_eq_true rfl) rfl (dkT_228 T13 ha1 e15) (fun T17 => ?_)
    refine wq_aload_n rfl rfl rfl ?_
    refine wq_bipush rfl rfl ?_
    refine wq_iconst rfl rfl ?_
    refine wq_iconst rfl rfl ?_
    refine wq_iconst rfl rfl ?_
    obtain ⟨y18, e19, h⟩ := od_bindE h
    refine wd_virtI (q := 0) (y := y18) (as := [36893488147419103232, 44, 3, 0, 0]) rfl rfl rfl (by decide) (Nat.le_of_ble_eq_true rfl) (Nat.le_of_ble_eq_true rfl) rfl (Nat.le_of_ble_eq_true rfl) rfl (dkT_30 T17 (by decide) (by decide) (wm_zlt (by decide)) (wm_zlt (by decide)) e19) (fun p20 T21 => ?_)
    refine wq_istore rfl p20 (Nat.le_of_ble_eq_true rfl) (Or.inr ⟨_, rfl, (wq_notL ha2)⟩) (L' := [36893488147419103232, a0, a1, a2, y18.1]) rfl ?_
    refine wq_iconst rfl rfl ?_
    exact wq_iret rfl (wm_zlt (by decide)) (Nat.blt_eq.mpr (by decide)) (wkOZ h T21 (by decide))
  · replace h := od_pos h h5
    refine wq_iconst rfl rfl ?_
    exact wq_iret rfl (wm_zlt (by decide)) (Nat.blt_eq.mpr (by decide)) (wkOZ h T4 (by decide))
/-- X12_returned -/
def dk_271 (F : wq_F) (a0 : Nat) : Option (Nat × wq_F) :=
  (dk_30 F 17 0 0 a0).bind fun y1 =>
  (dk_30 y1.2 38 0 0 0).bind fun y5 =>
  (dk_36 y5.2 59).bind fun y9 =>
  if y9.1 = 0 then
    some (1, y9.2)
  else
    (dk_212 y9.2).bind fun y14 =>
    if y14.1 = 0 then
      some (0, y14.2)
    else
      some (1, y14.2)
theorem dkT_271 {d : Nat} {F : wq_F} (hT : wm_T F) {a0 : Nat} (ha0 : a0 < 4294967296) {x : Nat × wq_F} (h : dk_271 F a0 = some x) : mq (d + 2 + 1) 271 [36893488147419103232, a0] wm_sh F (wkZ wm_T wm_sh x) := by
  have e : ev_ent [36893488147419103232, a0] = [36893488147419103232, a0] := by
    show 36893488147419103232 :: ev_ent [a0] = _
    rw [wm_entI ha0]
    rfl
  refine mq_of (maxL := 3) (rt := (some .boolean)) (code := (ev_un al_mX12_returned.2.2.2.2)) (L := [36893488147419103232, a0, 73786976294838206464]) rfl (by rw [e]; exact Nat.le_of_ble_eq_true rfl) (by rw [e]; rfl) ?_
  unfold dk_271 at h
  refine wq_aload_n rfl rfl rfl ?_
  refine wq_bipush rfl rfl ?_
  refine wq_iconst rfl rfl ?_
  refine wq_iconst rfl rfl ?_
  refine wq_iload_n rfl rfl ha0 ?_
  obtain ⟨y1, e2, h⟩ := od_bindE h
  refine wd_virtI (q := 0) (y := y1) (as := [36893488147419103232, 17, 0, 0, a0]) rfl rfl rfl (by decide) (Nat.le_of_ble_eq_true rfl) (Nat.le_of_ble_eq_true rfl) rfl (Nat.le_of_ble_eq_true rfl) rfl (dkT_30 hT (by decide) (wm_zlt (by decide)) (wm_zlt (by decide)) ha0 e2) (fun p3 T4 => ?_)
  refine wq_istore_n rfl p3 (Nat.le_of_ble_eq_true rfl) (Or.inr ⟨_, rfl, (wq_notL ha0)⟩) (L' := [36893488147419103232, a0, y1.1]) rfl ?_
  refine wq_aload_n rfl rfl rfl ?_
  refine wq_bipush rfl rfl ?_
  refine wq_iconst rfl rfl ?_
  refine wq_iconst rfl rfl ?_
  refine wq_iconst rfl rfl ?_
  obtain ⟨y5, e6, h⟩ := od_bindE h
  refine wd_virtI (q := 0) (y := y5) (as := [36893488147419103232, 38, 0, 0, 0]) rfl rfl rfl (by decide) (Nat.le_of_ble_eq_true rfl) (Nat.le_of_ble_eq_true rfl) rfl (Nat.le_of_ble_eq_true rfl) rfl (dkT_30 T4 (by decide) (wm_zlt (by decide)) (wm_zlt (by decide)) (wm_zlt (by decide)) e6) (fun p7 T8 => ?_)
  refine wq_istore_n rfl p7 (Nat.le_of_ble_eq_true rfl) (Or.inr ⟨_, rfl, (wq_notL ha0)⟩) (L' := [36893488147419103232, a0, y5.1]) rfl ?_
  refine wq_aload_n rfl rfl rfl ?_
  refine wq_bipush rfl rfl ?_
  obtain ⟨y9, e10, h⟩ := od_bindE h
  refine wd_virtZ (q := 0) (y := y9) (as := [36893488147419103232, 59]) rfl rfl rfl (by decide) (Nat.le_of_ble_eq_true rfl) (Nat.le_of_ble_eq_true rfl) rfl (Nat.le_of_ble_eq_true rfl) rfl (dkT_36 T8 (by decide) e10) (fun p11 T12 => ?_)
  refine wq_if_eq rfl rfl (wm_zlt p11) (fun h13 => ?_) (fun h13 => ?_)
  · replace h := od_pos h h13
    refine wq_iconst rfl rfl ?_
    refine wq_goto rfl rfl ?_
    exact wq_iret rfl (wm_zlt (by decide)) (Nat.blt_eq.mpr (by decide)) (wkOZ h T12 (by decide))
  · replace h := od_neg h h13
    refine wq_aload_n rfl rfl rfl ?_
    obtain ⟨y14, e15, h⟩ := od_bindE h
    refine wd_virtZ (q := 0) (y := y14) (as := [36893488147419103232]) rfl rfl rfl (by decide) (Nat.le_of_ble_eq_true rfl) (Nat.le_of_ble_eq_true rfl) rfl (Nat.le_of_ble_eq_true rfl) rfl (dkT_212 T12 e15) (fun p16 T17 => ?_)
    refine wq_if_eq rfl rfl (wm_zlt p16) (fun h18 => ?_) (fun h18 => ?_)
    · replace h := od_pos h h18
      refine wq_iconst rfl rfl ?_
      exact wq_iret rfl (wm_zlt (by decide)) (Nat.blt_eq.mpr (by decide)) (wkOZ h T17 (by decide))
    · replace h := od_neg h h18
      refine wq_iconst rfl rfl ?_
      refine wq_goto rfl rfl ?_
      exact wq_iret rfl (wm_zlt (by decide)) (Nat.blt_eq.mpr (by decide)) (wkOZ h T17 (by decide))
/-- X12_functionDone -/
def dk_272 (F : wq_F) (a0 : Nat) (a1 : Nat) (a2 : Nat) : Option (Nat × wq_F) :=
  if a0 = 3 then
    (dk_30 F 13 0 0 a2).bind fun y10 =>
    (dk_30 y10.2 47 0 0 0).bind fun y14 =>
    some (1, y14.2)
  else
    (dk_30 F ((9 + a0) % 4294967296) a1 0 0).bind fun y2 =>
    (dk_30 y2.2 47 0 0 0).bind fun y6 =>
    some (1, y6.2)
theorem dkT_272 {d : Nat} {F : wq_F} (hT : wm_T F) {a0 : Nat} (ha0 : a0 < 4294967296) {a1 : Nat} (ha1 : a1 < 4294967296) {a2 : Nat} (ha2 : a2 < 4294967296) {x : Nat × wq_F} (h : dk_272 F a0 a1 a2 = some x) : mq (d + 1 + 1) 272 [36893488147419103232, a0, a1, a2] wm_sh F (wkZ wm_T wm_sh x) := by
  have e : ev_ent [36893488147419103232, a0, a1, a2] = [36893488147419103232, a0, a1, a2] := by
    show 36893488147419103232 :: ev_ent [a0, a1, a2] = _
    rw [wm_entI ha0, wm_entI ha1, wm_entI ha2]
    rfl
  refine mq_of (maxL := 5) (rt := (some .boolean)) (code := (ev_un al_mX12_functionDone.2.2.2.2)) (L := [36893488147419103232, a0, a1, a2, 73786976294838206464]) rfl (by rw [e]; exact Nat.le_of_ble_eq_true rfl) (by rw [e]; rfl) ?_
  unfold dk_272 at h
  refine wq_iconst rfl rfl ?_
  refine wq_istore rfl (wm_zlt (by decide)) (Nat.le_of_ble_eq_true rfl) (Or.inr ⟨_, rfl, (wq_notL ha2)⟩) (L' := [36893488147419103232, a0, a1, a2, 0]) rfl ?_
  refine wq_iload_n rfl rfl ha0 ?_
  refine wq_iconst rfl rfl ?_
  refine wq_ic_ne rfl rfl ha0 (by decide) (fun h1 => ?_) (fun h1 => ?_)
  · replace h := od_neg h h1
    refine wq_aload_n rfl rfl rfl ?_
    refine wq_bipush rfl rfl ?_
    refine wq_iload_n rfl rfl ha0 ?_
    refine wq_iaddZ rfl (by decide) ha0 (z := (9 + a0) % 4294967296) rfl ?_
    refine wq_iload_n rfl rfl ha1 ?_
    refine wq_iconst rfl rfl ?_
    refine wq_iconst rfl rfl ?_
    obtain ⟨y2, e3, h⟩ := od_bindE h
    refine wd_virtI (q := 0) (y := y2) (as := [36893488147419103232, (9 + a0) % 4294967296, a1, 0, 0]) rfl rfl rfl (by decide) (Nat.le_of_ble_eq_true rfl) (Nat.le_of_ble_eq_true rfl) rfl (Nat.le_of_ble_eq_true rfl) rfl (dkT_30 hT (Nat.mod_lt _ (by decide)) ha1 (wm_zlt (by decide)) (wm_zlt (by decide)) e3) (fun p4 T5 => ?_)
    refine wq_istore rfl p4 (Nat.le_of_ble_eq_true rfl) (Or.inr ⟨_, rfl, (wq_notL ha2)⟩) (L' := [36893488147419103232, a0, a1, a2, y2.1]) rfl ?_
    refine wq_aload_n rfl rfl rfl ?_
    refine wq_bipush rfl rfl ?_
    refine wq_iconst rfl rfl ?_
    refine wq_iconst rfl rfl ?_
    refine wq_iconst rfl rfl ?_
    obtain ⟨y6, e7, h⟩ := od_bindE h
    refine wd_virtI (q := 0) (y := y6) (as := [36893488147419103232, 47, 0, 0, 0]) rfl rfl rfl (by decide) (Nat.le_of_ble_eq_true rfl) (Nat.le_of_ble_eq_true rfl) rfl (Nat.le_of_ble_eq_true rfl) rfl (dkT_30 T5 (by decide) (wm_zlt (by decide)) (wm_zlt (by decide)) (wm_zlt (by decide)) e7) (fun p8 T9 => ?_)
    refine wq_istore rfl p8 (Nat.le_of_ble_eq_true rfl) (Or.inr ⟨_, rfl, (wq_notL ha2)⟩) (L' := [36893488147419103232, a0, a1, a2, y6.1]) rfl ?_
    refine wq_iconst rfl rfl ?_
    exact wq_iret rfl (wm_zlt (by decide)) (Nat.blt_eq.mpr (by decide)) (wkOZ h T9 (by decide))
  · replace h := od_pos h h1
    refine wq_aload_n rfl rfl rfl ?_
    refine wq_bipush rfl rfl ?_
    refine wq_iconst rfl rfl ?_
    refine wq_iconst rfl rfl ?_
    refine wq_iload_n rfl rfl ha2 ?_
    obtain ⟨y10, e11, h⟩ := od_bindE h
    refine wd_virtI (q := 0) (y := y10) (as := [36893488147419103232, 13, 0, 0, a2]) rfl rfl rfl (by decide) (Nat.le_of_ble_eq_true rfl) (Nat.le_of_ble_eq_true rfl) rfl (Nat.le_of_ble_eq_true rfl) rfl (dkT_30 hT (by decide) (wm_zlt (by decide)) (wm_zlt (by decide)) ha2 e11) (fun p12 T13 => ?_)
    refine wq_istore rfl p12 (Nat.le_of_ble_eq_true rfl) (Or.inr ⟨_, rfl, (wq_notL ha2)⟩) (L' := [36893488147419103232, a0, a1, a2, y10.1]) rfl ?_
    refine wq_goto rfl rfl ?_
    refine wq_aload_n rfl rfl rfl ?_
    refine wq_bipush rfl rfl ?_
    refine wq_iconst rfl rfl ?_
    refine wq_iconst rfl rfl ?_
    refine wq_iconst rfl rfl ?_
    obtain ⟨y14, e15, h⟩ := od_bindE h
    refine wd_virtI (q := 0) (y := y14) (as := [36893488147419103232, 47, 0, 0, 0]) rfl rfl rfl (by decide) (Nat.le_of_ble_eq_true rfl) (Nat.le_of_ble_eq_true rfl) rfl (Nat.le_of_ble_eq_true rfl) rfl (dkT_30 T13 (by decide) (wm_zlt (by decide)) (wm_zlt (by decide)) (wm_zlt (by decide)) e15) (fun p16 T17 => ?_)
    refine wq_istore rfl p16 (Nat.le_of_ble_eq_true rfl) (Or.inr ⟨_, rfl, (wq_notL ha2)⟩) (L' := [36893488147419103232, a0, a1, a2, y14.1]) rfl ?_
    refine wq_iconst rfl rfl ?_
    exact wq_iret rfl (wm_zlt (by decide)) (Nat.blt_eq.mpr (by decide)) (wkOZ h T17 (by decide))
/-- X12_goOnStatement -/
def dk_37 (n : Nat) (F : wq_F) (a0 : Nat) (a1 : Nat) (a2 : Nat) (a3 : Nat) : Option (Nat × wq_F) :=
  if a0 = 21 then
    (dk_256 F a1).bind fun y3 =>
    some (y3.1, y3.2)
  else if a0 = 22 then
    (dk_257 n F a1 a2).bind fun y9 =>
    some (y9.1, y9.2)
  else if a0 = 23 then
    (dk_258 F a1).bind fun y15 =>
    some (y15.1, y15.2)
  else if a0 = 24 then
    (dk_259 n F a1 a2).bind fun y21 =>
    some (y21.1, y21.2)
  else if a0 = 25 then
    (dk_260 n F a1).bind fun y27 =>
    some (y27.1, y27.2)
  else if a0 = 26 then
    (dk_261 F a1).bind fun y33 =>
    some (y33.1, y33.2)
  else if a0 = 27 then
    (dk_262 n F a1 a2).bind fun y39 =>
    some (y39.1, y39.2)
  else if a0 = 28 then
    (dk_263 F a1 a2 a3).bind fun y45 =>
    some (y45.1, y45.2)
  else if a0 = 29 then
    (dk_264 n F a1 a2 a3).bind fun y51 =>
    some (y51.1, y51.2)
  else if a0 = 30 then
    (dk_214 F 6).bind fun y57 =>
    some (y57.1, y57.2)
  else if a0 = 31 then
    (dk_265 F a1 a2 a3).bind fun y63 =>
    some (y63.1, y63.2)
  else if a0 = 32 then
    (dk_266 F a1 a2 a3).bind fun y69 =>
    some (y69.1, y69.2)
  else if a0 = 33 then
    (dk_267 F a1 a2 a3).bind fun y75 =>
    some (y75.1, y75.2)
  else if a0 = 34 then
    (dk_268 n F a1 a2 a3).bind fun y81 =>
    some (y81.1, y81.2)
  else if a0 = 35 then
    (dk_269 n F a1 a2 a3).bind fun y87 =>
    some (y87.1, y87.2)
  else if a0 = 36 then
    (dk_270 n F a1 a2 a3).bind fun y93 =>
    some (y93.1, y93.2)
  else if a0 = 37 then
    (dk_271 F a1).bind fun y99 =>
    some (y99.1, y99.2)
  else if a0 = 38 then
    od_g (F 0 25 < 1502) <|
    if (F 9 (F 0 25)) = 6 then
      some (1, F)
    else
      (dk_211 F).bind fun y107 =>
      if y107.1 = 0 then
        some (0, y107.2)
      else
        some (1, y107.2)
  else if a0 = 39 then
    (dk_231 n F a1 a2 (ev_oDiv a3 100) (ev_oRem a3 100)).bind fun y114 =>
    some (y114.1, y114.2)
  else if a0 = 40 then
    (dk_30 F 9 a1 0 0).bind fun y120 =>
    some (1, y120.2)
  else if a0 = 41 then
    (dk_272 F a1 a2 a3).bind fun y126 =>
    some (y126.1, y126.2)
  else 
  od_g (F 0 25 < 1502) <|
  if (F 9 (F 0 25)) = 6 then
    some (1, F)
  else
    (dk_211 F).bind fun y133 =>
    if y133.1 = 0 then
      some (0, y133.2)
    else
      some (1, y133.2)
theorem dkT_37 {d n : Nat} {F : wq_F} (hT : wm_T F) {a0 : Nat} (ha0 : a0 < 4294967296) {a1 : Nat} (ha1 : a1 < 4294967296) {a2 : Nat} (ha2 : a2 < 4294967296) {a3 : Nat} (ha3 : a3 < 4294967296) {x : Nat × wq_F} (h : dk_37 n F a0 a1 a2 a3 = some x) : mq (d + 5 + 1) 37 [36893488147419103232, a0, a1, a2, a3] wm_sh F (wkZ wm_T wm_sh x) := by
  have e : ev_ent [36893488147419103232, a0, a1, a2, a3] = [36893488147419103232, a0, a1, a2, a3] := by
    show 36893488147419103232 :: ev_ent [a0, a1, a2, a3] = _
    rw [wm_entI ha0, wm_entI ha1, wm_entI ha2, wm_entI ha3]
    rfl
  refine mq_of (maxL := 6) (rt := (some .boolean)) (code := (ev_un al_mX12_goOnStatement.2.2.2.2)) (L := [36893488147419103232, a0, a1, a2, a3, 73786976294838206464]) rfl (by rw [e]; exact Nat.le_of_ble_eq_true rfl) (by rw [e]; rfl) ?_
  unfold dk_37 at h
  refine wq_iload_n rfl rfl ha0 ?_
  have i1 : a0 < 21 ∨ 21 ≤ a0 := Nat.lt_or_ge _ _
  by_cases h2 : a0 = 21
  case pos =>
    replace h := od_pos h h2
    refine wq_top h2 ?_
    refine wq_tsw rfl (by decide) (tgt := 100) rfl ?_
    refine wq_aload_n rfl rfl rfl ?_
    refine wq_iload_n rfl rfl ha1 ?_
    obtain ⟨y3, e4, h⟩ := od_bindE h
    refine wd_virtZ (q := 0) (y := y3) (as := [36893488147419103232, a1]) rfl rfl rfl (by decide) (Nat.le_of_ble_eq_true rfl) (Nat.le_of_ble_eq_true rfl) rfl (Nat.le_of_ble_eq_true rfl) rfl (dkT_256 hT ha1 e4) (fun p5 T6 => ?_)
    exact wq_iret rfl (wm_zlt p5) (Nat.blt_eq.mpr p5) (wkOZ h T6 p5)
  replace h := od_neg h h2
  have i7 : a0 < 21 ∨ 22 ≤ a0 := by omega
  clear i1
  by_cases h8 : a0 = 22
  case pos =>
    replace h := od_pos h h8
    refine wq_top h8 ?_
    refine wq_tsw rfl (by decide) (tgt := 106) rfl ?_
    refine wq_aload_n rfl rfl rfl ?_
    refine wq_iload_n rfl rfl ha1 ?_
    refine wq_iload_n rfl rfl ha2 ?_
    obtain ⟨y9, e10, h⟩ := od_bindE h
    refine wd_virtZ (q := 0) (y := y9) (as := [36893488147419103232, a1, a2]) rfl rfl rfl (by decide) (Nat.le_of_ble_eq_true rfl) (Nat.le_of_ble_eq_true rfl) rfl (Nat.le_of_ble_eq_true rfl) rfl (dkT_257 hT ha1 ha2 e10) (fun p11 T12 => ?_)
    exact wq_iret rfl (wm_zlt p11) (Nat.blt_eq.mpr p11) (wkOZ h T12 p11)
  replace h := od_neg h h8
  have i13 : a0 < 21 ∨ 23 ≤ a0 := by omega
  clear i7
  by_cases h14 : a0 = 23
  case pos =>
    replace h := od_pos h h14
    refine wq_top h14 ?_
    refine wq_tsw rfl (by decide) (tgt := 113) rfl ?_
    refine wq_aload_n rfl rfl rfl ?_
    refine wq_iload_n rfl rfl ha1 ?_
    obtain ⟨y15, e16, h⟩ := od_bindE h
    refine wd_virtZ (q := 0) (y := y15) (as := [36893488147419103232, a1]) rfl rfl rfl (by decide) (Nat.le_of_ble_eq_true rfl) (Nat.le_of_ble_eq_true rfl) rfl (Nat.le_of_ble_eq_true rfl) rfl (dkT_258 hT ha1 e16) (fun p17 T18 => ?_)
    exact wq_iret rfl (wm_zlt p17) (Nat.blt_eq.mpr p17) (wkOZ h T18 p17)
  replace h := od_neg h h14
  have i19 : a0 < 21 ∨ 24 ≤ a0 := by omega
  clear i13
  by_cases h20 : a0 = 24
  case pos =>
    replace h := od_pos h h20
    refine wq_top h20 ?_
    refine wq_tsw rfl (by decide) (tgt := 119) rfl ?_
    refine wq_aload_n rfl rfl rfl ?_
    refine wq_iload_n rfl rfl ha1 ?_
    refine wq_iload_n rfl rfl ha2 ?_
    obtain ⟨y21, e22, h⟩ := od_bindE h
    refine wd_virtZ (q := 0) (y := y21) (as := [36893488147419103232, a1, a2]) rfl rfl rfl (by decide) (Nat.le_of_ble_eq_true rfl) (Nat.le_of_ble_eq_true rfl) rfl (Nat.le_of_ble_eq_true rfl) rfl (dkT_259 hT ha1 ha2 e22) (fun p23 T24 => ?_)
    exact wq_iret rfl (wm_zlt p23) (Nat.blt_eq.mpr p23) (wkOZ h T24 p23)
  replace h := od_neg h h20
  have i25 : a0 < 21 ∨ 25 ≤ a0 := by omega
  clear i19
  by_cases h26 : a0 = 25
  case pos =>
    replace h := od_pos h h26
    refine wq_top h26 ?_
    refine wq_tsw rfl (by decide) (tgt := 126) rfl ?_
    refine wq_aload_n rfl rfl rfl ?_
    refine wq_iload_n rfl rfl ha1 ?_
    obtain ⟨y27, e28, h⟩ := od_bindE h
    refine wd_virtZ (q := 0) (y := y27) (as := [36893488147419103232, a1]) rfl rfl rfl (by decide) (Nat.le_of_ble_eq_true rfl) (Nat.le_of_ble_eq_true rfl) rfl (Nat.le_of_ble_eq_true rfl) rfl (dkT_260 hT ha1 e28) (fun p29 T30 => ?_)
    exact wq_iret rfl (wm_zlt p29) (Nat.blt_eq.mpr p29) (wkOZ h T30 p29)
  replace h := od_neg h h26
  have i31 : a0 < 21 ∨ 26 ≤ a0 := by omega
  clear i25
  by_cases h32 : a0 = 26
  case pos =>
    replace h := od_pos h h32
    refine wq_top h32 ?_
    refine wq_tsw rfl (by decide) (tgt := 132) rfl ?_
    refine wq_aload_n rfl rfl rfl ?_
    refine wq_iload_n rfl rfl ha1 ?_
    obtain ⟨y33, e34, h⟩ := od_bindE h
    refine wd_virtZ (q := 0) (y := y33) (as := [36893488147419103232, a1]) rfl rfl rfl (by decide) (Nat.le_of_ble_eq_true rfl) (Nat.le_of_ble_eq_true rfl) rfl (Nat.le_of_ble_eq_true rfl) rfl (dkT_261 hT ha1 e34) (fun p35 T36 => ?_)
    exact wq_iret rfl (wm_zlt p35) (Nat.blt_eq.mpr p35) (wkOZ h T36 p35)
  replace h := od_neg h h32
  have i37 : a0 < 21 ∨ 27 ≤ a0 := by omega
  clear i31
  by_cases h38 : a0 = 27
  case pos =>
    replace h := od_pos h h38
    refine wq_top h38 ?_
    refine wq_tsw rfl (by decide) (tgt := 138) rfl ?_
    refine wq_aload_n rfl rfl rfl ?_
    refine wq_iload_n rfl rfl ha1 ?_
    refine wq_iload_n rfl rfl ha2 ?_
    obtain ⟨y39, e40, h⟩ := od_bindE h
    refine wd_virtZ (q := 0) (y := y39) (as := [36893488147419103232, a1, a2]) rfl rfl rfl (by decide) (Nat.le_of_ble_eq_true rfl) (Nat.le_of_ble_eq_true rfl) rfl (Nat.le_of_ble_eq_true rfl) rfl (dkT_262 hT ha1 ha2 e40) (fun p41 T42 => ?_)
    exact wq_iret rfl (wm_zlt p41) (Nat.blt_eq.mpr p41) (wkOZ h T42 p41)
  replace h := od_neg h h38
  have i43 : a0 < 21 ∨ 28 ≤ a0 := by omega
  clear i37
  by_cases h44 : a0 = 28
  case pos =>
    replace h := od_pos h h44
    refine wq_top h44 ?_
    refine wq_tsw rfl (by decide) (tgt := 145) rfl ?_
    refine wq_aload_n rfl rfl rfl ?_
    refine wq_iload_n rfl rfl ha1 ?_
    refine wq_iload_n rfl rfl ha2 ?_
    refine wq_iload rfl rfl ha3 ?_
    obtain ⟨y45, e46, h⟩ := od_bindE h
    refine wd_virtZ (q := 0) (y := y45) (as := [36893488147419103232, a1, a2, a3]) rfl rfl rfl (by decide) (Nat.le_of_ble_eq_true rfl) (Nat.le_of_ble_eq_true rfl) rfl (Nat.le_of_ble_eq_true rfl) rfl (dkT_263 hT ha1 ha2 ha3 e46) (fun p47 T48 => ?_)
    exact wq_iret rfl (wm_zlt p47) (Nat.blt_eq.mpr p47) (wkOZ h T48 p47)
  replace h := od_neg h h44
  have i49 : a0 < 21 ∨ 29 ≤ a0 := by omega
  clear i43
  by_cases h50 : a0 = 29
  case pos =>
    replace h := od_pos h h50
    refine wq_top h50 ?_
    refine wq_tsw rfl (by decide) (tgt := 154) rfl ?_
    refine wq_aload_n rfl rfl rfl ?_
    refine wq_iload_n rfl rfl ha1 ?_
    refine wq_iload_n rfl rfl ha2 ?_
    refine wq_iload rfl rfl ha3 ?_
    obtain ⟨y51, e52, h⟩ := od_bindE h
    refine wd_virtZ (q := 0) (y := y51) (as := [36893488147419103232, a1, a2, a3]) rfl rfl rfl (by decide) (Nat.le_of_ble_eq_true rfl) (Nat.le_of_ble_eq_true rfl) rfl (Nat.le_of_ble_eq_true rfl) rfl (dkT_264 hT ha1 ha2 ha3 e52) (fun p53 T54 => ?_)
    exact wq_iret rfl (wm_zlt p53) (Nat.blt_eq.mpr p53) (wkOZ h T54 p53)
  replace h := od_neg h h50
  have i55 : a0 < 21 ∨ 30 ≤ a0 := by omega
  clear i49
  by_cases h56 : a0 = 30
  case pos =>
    replace h := od_pos h h56
    refine wq_top h56 ?_
    refine wq_tsw rfl (by decide) (tgt := 163) rfl ?_
    refine wq_aload_n rfl rfl rfl ?_
    refine wq_bipush rfl rfl ?_
    obtain ⟨y57, e58, h⟩ := od_bindE h
    refine wd_virtZ (q := 0) (y := y57) (as := [36893488147419103232, 6]) rfl rfl rfl (by decide) (Nat.le_of_ble_eq_true rfl) (Nat.le_of_ble_eq_true rfl) rfl (Nat.le_of_ble_eq_true rfl) rfl (dkT_214 hT (by decide) e58) (fun p59 T60 => ?_)
    exact wq_iret rfl (wm_zlt p59) (Nat.blt_eq.mpr p59) (wkOZ h T60 p59)
  replace h := od_neg h h56
  have i61 : a0 < 21 ∨ 31 ≤ a0 := by omega
  clear i55
  by_cases h62 : a0 = 31
  case pos =>
    replace h := od_pos h h62
    refine wq_top h62 ?_
    refine wq_tsw rfl (by decide) (tgt := 170) rfl ?_
    refine wq_aload_n rfl rfl rfl ?_
    refine wq_iload_n rfl rfl ha1 ?_
    refine wq_iload_n rfl rfl ha2 ?_
    refine wq_iload rfl rfl ha3 ?_
    obtain ⟨y63, e64, h⟩ := od_bindE h
    refine wd_virtZ (q := 0) (y := y63) (as := [36893488147419103232, a1, a2, a3]) rfl rfl rfl (by decide) (Nat.le_of_ble_eq_true rfl) (Nat.le_of_ble_eq_true rfl) rfl (Nat.le_of_ble_eq_true rfl) rfl (dkT_265 hT ha1 ha2 ha3 e64) (fun p65 T66 => ?_)
    exact wq_iret rfl (wm_zlt p65) (Nat.blt_eq.mpr p65) (wkOZ h T66 p65)
  replace h := od_neg h h62
  have i67 : a0 < 21 ∨ 32 ≤ a0 := by omega
  clear i61
  by_cases h68 : a0 = 32
  case pos =>
    replace h := od_pos h h68
    refine wq_top h68 ?_
    refine wq_tsw rfl (by decide) (tgt := 179) rfl ?_
    refine wq_aload_n rfl rfl rfl ?_
    refine wq_iload_n rfl rfl ha1 ?_
    refine wq_iload_n rfl rfl ha2 ?_
    refine wq_iload rfl rfl ha3 ?_
    obtain ⟨y69, e70, h⟩ := od_bindE h
    refine wd_virtZ (q := 0) (y := y69) (as := [36893488147419103232, a1, a2, a3]) rfl rfl rfl (by decide) (Nat.le_of_ble_eq_true rfl) (Nat.le_of_ble_eq_true rfl) rfl (Nat.le_of_ble_eq_true rfl) rfl (dkT_266 hT ha1 ha2 ha3 e70) (fun p71 T72 => ?_)
    exact wq_iret rfl (wm_zlt p71) (Nat.blt_eq.mpr p71) (wkOZ h T72 p71)
  replace h := od_neg h h68
  have i73 : a0 < 21 ∨ 33 ≤ a0 := by omega
  clear i67
  by_cases h74 : a0 = 33
  case pos =>
    replace h := od_pos h h74
    refine wq_top h74 ?_
    refine wq_tsw rfl (by decide) (tgt := 188) rfl ?_
    refine wq_aload_n rfl rfl rfl ?_
    refine wq_iload_n rfl rfl ha1 ?_
    refine wq_iload_n rfl rfl ha2 ?_
    refine wq_iload rfl rfl ha3 ?_
    obtain ⟨y75, e76, h⟩ := od_bindE h
    refine wd_virtZ (q := 0) (y := y75) (as := [36893488147419103232, a1, a2, a3]) rfl rfl rfl (by decide) (Nat.le_of_ble_eq_true rfl) (Nat.le_of_ble_eq_true rfl) rfl (Nat.le_of_ble_eq_true rfl) rfl (dkT_267 hT ha1 ha2 ha3 e76) (fun p77 T78 => ?_)
    exact wq_iret rfl (wm_zlt p77) (Nat.blt_eq.mpr p77) (wkOZ h T78 p77)
  replace h := od_neg h h74
  have i79 : a0 < 21 ∨ 34 ≤ a0 := by omega
  clear i73
  by_cases h80 : a0 = 34
  case pos =>
    replace h := od_pos h h80
    refine wq_top h80 ?_
    refine wq_tsw rfl (by decide) (tgt := 197) rfl ?_
    refine wq_aload_n rfl rfl rfl ?_
    refine wq_iload_n rfl rfl ha1 ?_
    refine wq_iload_n rfl rfl ha2 ?_
    refine wq_iload rfl rfl ha3 ?_
    obtain ⟨y81, e82, h⟩ := od_bindE h
    refine wd_virtZ (q := 0) (y := y81) (as := [36893488147419103232, a1, a2, a3]) rfl rfl rfl (by decide) (Nat.le_of_ble_eq_true rfl) (Nat.le_of_ble_eq_true rfl) rfl (Nat.le_of_ble_eq_true rfl) rfl (dkT_268 hT ha1 ha2 ha3 e82) (fun p83 T84 => ?_)
    exact wq_iret rfl (wm_zlt p83) (Nat.blt_eq.mpr p83) (wkOZ h T84 p83)
  replace h := od_neg h h80
  have i85 : a0 < 21 ∨ 35 ≤ a0 := by omega
  clear i79
  by_cases h86 : a0 = 35
  case pos =>
    replace h := od_pos h h86
    refine wq_top h86 ?_
    refine wq_tsw rfl (by decide) (tgt := 206) rfl ?_
    refine wq_aload_n rfl rfl rfl ?_
    refine wq_iload_n rfl rfl ha1 ?_
    refine wq_iload_n rfl rfl ha2 ?_
    refine wq_iload rfl rfl ha3 ?_
    obtain ⟨y87, e88, h⟩ := od_bindE h
    refine wd_virtZ (q := 0) (y := y87) (as := [36893488147419103232, a1, a2, a3]) rfl rfl rfl (by decide) (Nat.le_of_ble_eq_true rfl) (Nat.le_of_ble_eq_true rfl) rfl (Nat.le_of_ble_eq_true rfl) rfl (dkT_269 hT ha1 ha2 ha3 e88) (fun p89 T90 => ?_)
    exact wq_iret rfl (wm_zlt p89) (Nat.blt_eq.mpr p89) (wkOZ h T90 p89)
  replace h := od_neg h h86
  have i91 : a0 < 21 ∨ 36 ≤ a0 := by omega
  clear i85
  by_cases h92 : a0 = 36
  case pos =>
    replace h := od_pos h h92
    refine wq_top h92 ?_
    refine wq_tsw rfl (by decide) (tgt := 215) rfl ?_
    refine wq_aload_n rfl rfl rfl ?_
    refine wq_iload_n rfl rfl ha1 ?_
    refine wq_iload_n rfl rfl ha2 ?_
    refine wq_iload rfl rfl ha3 ?_
    obtain ⟨y93, e94, h⟩ := od_bindE h
    refine wd_virtZ (q := 0) (y := y93) (as := [36893488147419103232, a1, a2, a3]) rfl rfl rfl (by decide) (Nat.le_of_ble_eq_true rfl) (Nat.le_of_ble_eq_true rfl) rfl (Nat.le_of_ble_eq_true rfl) rfl (dkT_270 hT ha1 ha2 ha3 e94) (fun p95 T96 => ?_)
    exact wq_iret rfl (wm_zlt p95) (Nat.blt_eq.mpr p95) (wkOZ h T96 p95)
  replace h := od_neg h h92
  have i97 : a0 < 21 ∨ 37 ≤ a0 := by omega
  clear i91
  by_cases h98 : a0 = 37
  case pos =>
    replace h := od_pos h h98
    refine wq_top h98 ?_
    refine wq_tsw rfl (by decide) (tgt := 224) rfl ?_
    refine wq_aload_n rfl rfl rfl ?_
    refine wq_iload_n rfl rfl ha1 ?_
    obtain ⟨y99, e100, h⟩ := od_bindE h
    refine wd_virtZ (q := 0) (y := y99) (as := [36893488147419103232, a1]) rfl rfl rfl (by decide) (Nat.le_of_ble_eq_true rfl) (Nat.le_of_ble_eq_true rfl) rfl (Nat.le_of_ble_eq_true rfl) rfl (dkT_271 hT ha1 e100) (fun p101 T102 => ?_)
    exact wq_iret rfl (wm_zlt p101) (Nat.blt_eq.mpr p101) (wkOZ h T102 p101)
  replace h := od_neg h h98
  have i103 : a0 < 21 ∨ 38 ≤ a0 := by omega
  clear i97
  by_cases h104 : a0 = 38
  case pos =>
    replace h := od_pos h h104
    refine wq_top h104 ?_
    refine wq_tsw rfl (by decide) (tgt := 269) rfl ?_
    refine wq_aload_n rfl rfl rfl ?_
    refine wm_getR (v := 36893488147419103241) rfl (by decide) (hT.r 21 8 rfl) ?_
    refine wq_aload_n rfl rfl rfl ?_
    refine wm_getI rfl (by decide) ?_
    obtain ⟨g105, h⟩ := od_gE h
    refine wq_iaload (q := 9) (n := 1502) rfl rfl (by decide) g105 (by decide) ?_
    refine wq_bipush rfl rfl ?_
    refine wq_ic_eq rfl rfl (hT.ai (k := 9) rfl g105) (by decide) (fun h106 => ?_) (fun h106 => ?_)
    · replace h := od_pos h h106
      refine wq_iconst rfl rfl ?_
      refine wq_goto rfl rfl ?_
      exact wq_iret rfl (wm_zlt (by decide)) (Nat.blt_eq.mpr (by decide)) (wkOZ h hT (by decide))
    · replace h := od_neg h h106
      refine wq_aload_n rfl rfl rfl ?_
      obtain ⟨y107, e108, h⟩ := od_bindE h
      refine wd_virtZ (q := 0) (y := y107) (as := [36893488147419103232]) rfl rfl rfl (by decide) (Nat.le_of_ble_eq_true rfl) (Nat.le_of_ble_eq_true rfl) rfl (Nat.le_of_ble_eq_true rfl) rfl (dkT_211 hT e108) (fun p109 T110 => ?_)
      refine wq_if_eq rfl rfl (wm_zlt p109) (fun h111 => ?_) (fun h111 => ?_)
      · replace h := od_pos h h111
        refine wq_iconst rfl rfl ?_
        exact wq_iret rfl (wm_zlt (by decide)) (Nat.blt_eq.mpr (by decide)) (wkOZ h T110 (by decide))
      · replace h := od_neg h h111
        refine wq_iconst rfl rfl ?_
        refine wq_goto rfl rfl ?_
        exact wq_iret rfl (wm_zlt (by decide)) (Nat.blt_eq.mpr (by decide)) (wkOZ h T110 (by decide))
  replace h := od_neg h h104
  have i112 : a0 < 21 ∨ 39 ≤ a0 := by omega
  clear i103
  by_cases h113 : a0 = 39
  case pos =>
    replace h := od_pos h h113
    refine wq_top h113 ?_
    refine wq_tsw rfl (by decide) (tgt := 230) rfl ?_
    refine wq_aload_n rfl rfl rfl ?_
    refine wq_iload_n rfl rfl ha1 ?_
    refine wq_iload_n rfl rfl ha2 ?_
    refine wq_iload rfl rfl ha3 ?_
    refine wq_bipush rfl rfl ?_
    refine wq_idiv rfl ha3 (by decide) (by decide) ?_
    refine wq_iload rfl rfl ha3 ?_
    refine wq_bipush rfl rfl ?_
    refine wq_irem rfl ha3 (by decide) (by decide) ?_
    obtain ⟨y114, e115, h⟩ := od_bindE h
    refine wd_virtZ (q := 0) (y := y114) (as := [36893488147419103232, a1, a2, ev_oDiv a3 100, ev_oRem a3 100]) rfl rfl rfl (by decide) (Nat.le_of_ble_eq_true rfl) (Nat.le_of_ble_eq_true rfl) rfl (Nat.le_of_ble_eq_true rfl) rfl (dkT_231 hT ha1 ha2 (wd_idiv _ _) (wd_irem _ _) e115) (fun p116 T117 => ?_)
    exact wq_iret rfl (wm_zlt p116) (Nat.blt_eq.mpr p116) (wkOZ h T117 p116)
  replace h := od_neg h h113
  have i118 : a0 < 21 ∨ 40 ≤ a0 := by omega
  clear i112
  by_cases h119 : a0 = 40
  case pos =>
    replace h := od_pos h h119
    refine wq_top h119 ?_
    refine wq_tsw rfl (by decide) (tgt := 247) rfl ?_
    refine wq_aload_n rfl rfl rfl ?_
    refine wq_bipush rfl rfl ?_
    refine wq_iload_n rfl rfl ha1 ?_
    refine wq_iconst rfl rfl ?_
    refine wq_iconst rfl rfl ?_
    obtain ⟨y120, e121, h⟩ := od_bindE h
    refine wd_virtI (q := 0) (y := y120) (as := [36893488147419103232, 9, a1, 0, 0]) rfl rfl rfl (by decide) (Nat.le_of_ble_eq_true rfl) (Nat.le_of_ble_eq_true rfl) rfl (Nat.le_of_ble_eq_true rfl) rfl (dkT_30 hT (by decide) ha1 (wm_zlt (by decide)) (wm_zlt (by decide)) e121) (fun p122 T123 => ?_)
    refine wq_istore rfl p122 (Nat.le_of_ble_eq_true rfl) (Or.inr ⟨_, rfl, (wq_notL ha3)⟩) (L' := [36893488147419103232, a0, a1, a2, a3, y120.1]) rfl ?_
    refine wq_iconst rfl rfl ?_
    exact wq_iret rfl (wm_zlt (by decide)) (Nat.blt_eq.mpr (by decide)) (wkOZ h T123 (by decide))
  replace h := od_neg h h119
  have i124 : a0 < 21 ∨ 41 ≤ a0 := by omega
  clear i118
  by_cases h125 : a0 = 41
  case pos =>
    replace h := od_pos h h125
    refine wq_top h125 ?_
    refine wq_tsw rfl (by decide) (tgt := 260) rfl ?_
    refine wq_aload_n rfl rfl rfl ?_
    refine wq_iload_n rfl rfl ha1 ?_
    refine wq_iload_n rfl rfl ha2 ?_
    refine wq_iload rfl rfl ha3 ?_
    obtain ⟨y126, e127, h⟩ := od_bindE h
    refine wd_virtZ (q := 0) (y := y126) (as := [36893488147419103232, a1, a2, a3]) rfl rfl rfl (by decide) (Nat.le_of_ble_eq_true rfl) (Nat.le_of_ble_eq_true rfl) rfl (Nat.le_of_ble_eq_true rfl) rfl (dkT_272 hT ha1 ha2 ha3 e127) (fun p128 T129 => ?_)
    exact wq_iret rfl (wm_zlt p128) (Nat.blt_eq.mpr p128) (wkOZ h T129 p128)
  replace h := od_neg h h125
  have i130 : a0 < 21 ∨ 42 ≤ a0 := by omega
  clear i124
  refine wq_tswD rfl ha0 (by unfold ev_si ev_s; omega) rfl (tgt := 269) rfl ?_
  refine wq_aload_n rfl rfl rfl ?_
  refine wm_getR (v := 36893488147419103241) rfl (by decide) (hT.r 21 8 rfl) ?_
  refine wq_aload_n rfl rfl rfl ?_
  refine wm_getI rfl (by decide) ?_
  obtain ⟨g131, h⟩ := od_gE h
  refine wq_iaload (q := 9) (n := 1502) rfl rfl (by decide) g131 (by decide) ?_
  refine wq_bipush rfl rfl ?_
  refine wq_ic_eq rfl rfl (hT.ai (k := 9) rfl g131) (by decide) (fun h132 => ?_) (fun h132 => ?_)
  · replace h := od_pos h h132
    refine wq_iconst rfl rfl ?_
    refine wq_goto rfl rfl ?_
    exact wq_iret rfl (wm_zlt (by decide)) (Nat.blt_eq.mpr (by decide)) (wkOZ h hT (by decide))
  · replace h := od_neg h h132
    refine wq_aload_n rfl rfl rfl ?_
    obtain ⟨y133, e134, h⟩ := od_bindE h
    refine wd_virtZ (q := 0) (y := y133) (as := [36893488147419103232]) rfl rfl rfl (by decide) (Nat.le_of_ble_eq_true rfl) (Nat.le_of_ble_eq_true rfl) rfl (Nat.le_of_ble_eq_true rfl) rfl (dkT_211 hT e134) (fun p135 T136 => ?_)
    refine wq_if_eq rfl rfl (wm_zlt p135) (fun h137 => ?_) (fun h137 => ?_)
    · replace h := od_pos h h137
      refine wq_iconst rfl rfl ?_
      exact wq_iret rfl (wm_zlt (by decide)) (Nat.blt_eq.mpr (by decide)) (wkOZ h T136 (by decide))
    · replace h := od_neg h h137
      refine wq_iconst rfl rfl ?_
      refine wq_goto rfl rfl ?_
      exact wq_iret rfl (wm_zlt (by decide)) (Nat.blt_eq.mpr (by decide)) (wkOZ h T136 (by decide))
/-- X12_goOn -/
def dk_32 (n : Nat) (F : wq_F) (a0 : Nat) (a1 : Nat) (a2 : Nat) (a3 : Nat) : Option (Nat × wq_F) :=
  if a0 = 0 then
    (dk_33 n F).bind fun y3 =>
    some (y3.1, y3.2)
  else if a0 = 1 then
    od_let (((F 0 47) + (4294967296 - 1)) % 4294967296) fun y9 =>
    od_up F 0 47 y9 fun F12 =>
    some (1, F12)
  else if a0 = 2 then
    (dk_225 F a1).bind fun y17 =>
    some (1, y17.2)
  else if a0 = 3 then
    (dk_236 F a1).bind fun y23 =>
    some (y23.1, y23.2)
  else if a0 = 4 then
    (dk_239 F a1).bind fun y29 =>
    some (y29.1, y29.2)
  else if a0 = 5 then
    (dk_242 F a1 a2).bind fun y35 =>
    some (y35.1, y35.2)
  else if a0 = 6 then
    (dk_241 F a1 a2 a3).bind fun y41 =>
    some (y41.1, y41.2)
  else if a0 = 7 then
    (dk_243 n F).bind fun y47 =>
    some (y47.1, y47.2)
  else if a0 = 8 then
    (dk_245 F).bind fun y53 =>
    some (y53.1, y53.2)
  else if a0 = 9 then
    (dk_273 F).bind fun y59 =>
    some (y59.1, y59.2)
  else if a0 = 10 then
    (dk_274 F a1).bind fun y65 =>
    some (y65.1, y65.2)
  else if a0 = 11 then
    (dk_275 F).bind fun y71 =>
    some (y71.1, y71.2)
  else if a0 = 12 then
    (dk_213 F 41).bind fun y77 =>
    some (y77.1, y77.2)
  else if a0 = 13 then
    (dk_276 F a1).bind fun y83 =>
    some (y83.1, y83.2)
  else if a0 = 14 then
    (dk_247 F a1).bind fun y89 =>
    some (y89.1, y89.2)
  else if a0 = 15 then
    (dk_249 F a1 a2).bind fun y95 =>
    some (y95.1, y95.2)
  else if a0 = 16 then
    (dk_31 F 17 a1 a2 a3).bind fun y101 =>
    (dk_31 y101.2 3 0 0 0).bind fun y105 =>
    (dk_213 y105.2 93).bind fun y109 =>
    if y109.1 = 0 then
      some (0, y109.2)
    else
      (dk_213 y109.2 61).bind fun y114 =>
      if y114.1 = 0 then
        some (0, y114.2)
      else
        some (1, y114.2)
  else if a0 = 17 then
    (dk_251 F a1 a2 a3).bind fun y121 =>
    some (y121.1, y121.2)
  else if a0 = 18 then
    (dk_252 F a1 a2).bind fun y127 =>
    some (y127.1, y127.2)
  else if a0 = 19 then
    (dk_253 n F a1).bind fun y133 =>
    some (y133.1, y133.2)
  else if a0 = 20 then
    (dk_255 F a1 a2).bind fun y139 =>
    some (y139.1, y139.2)
  else 
  (dk_37 n F a0 a1 a2 a3).bind fun y144 =>
  some (y144.1, y144.2)
theorem dkT_32 {d n : Nat} {F : wq_F} (hT : wm_T F) {a0 : Nat} (ha0 : a0 < 4294967296) {a1 : Nat} (ha1 : a1 < 4294967296) {a2 : Nat} (ha2 : a2 < 4294967296) {a3 : Nat} (ha3 : a3 < 4294967296) {x : Nat × wq_F} (h : dk_32 n F a0 a1 a2 a3 = some x) : mq (d + 6 + 1) 32 [36893488147419103232, a0, a1, a2, a3] wm_sh F (wkZ wm_T wm_sh x) := by
  have e : ev_ent [36893488147419103232, a0, a1, a2, a3] = [36893488147419103232, a0, a1, a2, a3] := by
    show 36893488147419103232 :: ev_ent [a0, a1, a2, a3] = _
    rw [wm_entI ha0, wm_entI ha1, wm_entI ha2, wm_entI ha3]
    rfl
  refine mq_of (maxL := 5) (rt := (some .boolean)) (code := (ev_un al_mX12_goOn.2.2.2.2)) (L := [36893488147419103232, a0, a1, a2, a3]) rfl (by rw [e]; exact Nat.le_of_ble_eq_true rfl) (by rw [e]; rfl) ?_
  unfold dk_32 at h
  refine wq_iload_n rfl rfl ha0 ?_
  have i1 : a0 < 0 ∨ 0 ≤ a0 := Nat.lt_or_ge _ _
  by_cases h2 : a0 = 0
  case pos =>
    replace h := od_pos h h2
    refine wq_top h2 ?_
    refine wq_tsw rfl (by decide) (tgt := 100) rfl ?_
    refine wq_aload_n rfl rfl rfl ?_
    obtain ⟨y3, e4, h⟩ := od_bindE h
    refine wd_virtZ (q := 0) (y := y3) (as := [36893488147419103232]) rfl rfl rfl (by decide) (Nat.le_of_ble_eq_true rfl) (Nat.le_of_ble_eq_true rfl) rfl (Nat.le_of_ble_eq_true rfl) rfl (dkT_33 hT e4) (fun p5 T6 => ?_)
    exact wq_iret rfl (wm_zlt p5) (Nat.blt_eq.mpr p5) (wkOZ h T6 p5)
  replace h := od_neg h h2
  have i7 : a0 < 0 ∨ 1 ≤ a0 := by omega
  clear i1
  by_cases h8 : a0 = 1
  case pos =>
    replace h := od_pos h h8
    refine wq_top h8 ?_
    refine wq_tsw rfl (by decide) (tgt := 105) rfl ?_
    refine wq_aload_n rfl rfl rfl ?_
    refine wq_dup rfl rfl ?_
    refine wm_getI rfl (by decide) ?_
    refine wq_iconst rfl rfl ?_
    refine wq_isubZ rfl (hT.i 47 rfl) (wm_zlt (by decide)) (z := ((F 0 47) + (4294967296 - 1)) % 4294967296) rfl ?_
    obtain ⟨y9, e10, h⟩ := od_letE h
    refine wq_top e10.symm ?_
    have p11 : y9 < 4294967296 := wd_lt e10 (Nat.mod_lt _ (by decide))
    obtain ⟨F12, e13, h⟩ := od_upE h
    refine wmE_put rfl (by decide) (wq_I p11) e13 ?_
    have T14 : wm_T F12 := wd_T e13 (hT.uf (f := 47) (c := 0) (v := y9) rfl (show y9 < 4294967296 from p11))
    refine wq_iconst rfl rfl ?_
    exact wq_iret rfl (wm_zlt (by decide)) (Nat.blt_eq.mpr (by decide)) (wkOZ h T14 (by decide))
  replace h := od_neg h h8
  have i15 : a0 < 0 ∨ 2 ≤ a0 := by omega
  clear i7
  by_cases h16 : a0 = 2
  case pos =>
    replace h := od_pos h h16
    refine wq_top h16 ?_
    refine wq_tsw rfl (by decide) (tgt := 117) rfl ?_
    refine wq_aload_n rfl rfl rfl ?_
    refine wq_iload_n rfl rfl ha1 ?_
    obtain ⟨y17, e18, h⟩ := od_bindE h
    refine wd_virtN (q := 0) (y := y17) (as := [36893488147419103232, a1]) rfl rfl rfl (by decide) (Nat.le_of_ble_eq_true rfl) (Nat.le_of_ble_eq_true rfl) rfl (Nat.le_of_ble_eq_true rfl) rfl (dkT_225 hT ha1 e18) (fun T20 => ?_)
    refine wq_iconst rfl rfl ?_
    exact wq_iret rfl (wm_zlt (by decide)) (Nat.blt_eq.mpr (by decide)) (wkOZ h T20 (by decide))
  replace h := od_neg h h16
  have i21 : a0 < 0 ∨ 3 ≤ a0 := by omega
  clear i15
  by_cases h22 : a0 = 3
  case pos =>
    replace h := od_pos h h22
    refine wq_top h22 ?_
    refine wq_tsw rfl (by decide) (tgt := 124) rfl ?_
    refine wq_aload_n rfl rfl rfl ?_
    refine wq_iload_n rfl rfl ha1 ?_
    obtain ⟨y23, e24, h⟩ := od_bindE h
    refine wd_virtZ (q := 0) (y := y23) (as := [36893488147419103232, a1]) rfl rfl rfl (by decide) (Nat.le_of_ble_eq_true rfl) (Nat.le_of_ble_eq_true rfl) rfl (Nat.le_of_ble_eq_true rfl) rfl (dkT_236 hT ha1 e24) (fun p25 T26 => ?_)
    exact wq_iret rfl (wm_zlt p25) (Nat.blt_eq.mpr p25) (wkOZ h T26 p25)
  replace h := od_neg h h22
  have i27 : a0 < 0 ∨ 4 ≤ a0 := by omega
  clear i21
  by_cases h28 : a0 = 4
  case pos =>
    replace h := od_pos h h28
    refine wq_top h28 ?_
    refine wq_tsw rfl (by decide) (tgt := 130) rfl ?_
    refine wq_aload_n rfl rfl rfl ?_
    refine wq_iload_n rfl rfl ha1 ?_
    obtain ⟨y29, e30, h⟩ := od_bindE h
    refine wd_virtZ (q := 0) (y := y29) (as := [36893488147419103232, a1]) rfl rfl rfl (by decide) (Nat.le_of_ble_eq_true rfl) (Nat.le_of_ble_eq_true rfl) rfl (Nat.le_of_ble_eq_true rfl) rfl (dkT_239 hT ha1 e30) (fun p31 T32 => ?_)
    exact wq_iret rfl (wm_zlt p31) (Nat.blt_eq.mpr p31) (wkOZ h T32 p31)
  replace h := od_neg h h28
  have i33 : a0 < 0 ∨ 5 ≤ a0 := by omega
  clear i27
  by_cases h34 : a0 = 5
  case pos =>
    replace h := od_pos h h34
    refine wq_top h34 ?_
    refine wq_tsw rfl (by decide) (tgt := 136) rfl ?_
    refine wq_aload_n rfl rfl rfl ?_
    refine wq_iload_n rfl rfl ha1 ?_
    refine wq_iload_n rfl rfl ha2 ?_
    obtain ⟨y35, e36, h⟩ := od_bindE h
    refine wd_virtZ (q := 0) (y := y35) (as := [36893488147419103232, a1, a2]) rfl rfl rfl (by decide) (Nat.le_of_ble_eq_true rfl) (Nat.le_of_ble_eq_true rfl) rfl (Nat.le_of_ble_eq_true rfl) rfl (dkT_242 hT ha1 ha2 e36) (fun p37 T38 => ?_)
    exact wq_iret rfl (wm_zlt p37) (Nat.blt_eq.mpr p37) (wkOZ h T38 p37)
  replace h := od_neg h h34
  have i39 : a0 < 0 ∨ 6 ≤ a0 := by omega
  clear i33
  by_cases h40 : a0 = 6
  case pos =>
    replace h := od_pos h h40
    refine wq_top h40 ?_
    refine wq_tsw rfl (by decide) (tgt := 143) rfl ?_
    refine wq_aload_n rfl rfl rfl ?_
    refine wq_iload_n rfl rfl ha1 ?_
    refine wq_iload_n rfl rfl ha2 ?_
    refine wq_iload rfl rfl ha3 ?_
    obtain ⟨y41, e42, h⟩ := od_bindE h
    refine wd_virtZ (q := 0) (y := y41) (as := [36893488147419103232, a1, a2, a3]) rfl rfl rfl (by decide) (Nat.le_of_ble_eq_true rfl) (Nat.le_of_ble_eq_true rfl) rfl (Nat.le_of_ble_eq_true rfl) rfl (dkT_241 hT ha1 ha2 ha3 e42) (fun p43 T44 => ?_)
    exact wq_iret rfl (wm_zlt p43) (Nat.blt_eq.mpr p43) (wkOZ h T44 p43)
  replace h := od_neg h h40
  have i45 : a0 < 0 ∨ 7 ≤ a0 := by omega
  clear i39
  by_cases h46 : a0 = 7
  case pos =>
    replace h := od_pos h h46
    refine wq_top h46 ?_
    refine wq_tsw rfl (by decide) (tgt := 152) rfl ?_
    refine wq_aload_n rfl rfl rfl ?_
    obtain ⟨y47, e48, h⟩ := od_bindE h
    refine wd_virtZ (q := 0) (y := y47) (as := [36893488147419103232]) rfl rfl rfl (by decide) (Nat.le_of_ble_eq_true rfl) (Nat.le_of_ble_eq_true rfl) rfl (Nat.le_of_ble_eq_true rfl) rfl (dkT_243 hT e48) (fun p49 T50 => ?_)
    exact wq_iret rfl (wm_zlt p49) (Nat.blt_eq.mpr p49) (wkOZ h T50 p49)
  replace h := od_neg h h46
  have i51 : a0 < 0 ∨ 8 ≤ a0 := by omega
  clear i45
  by_cases h52 : a0 = 8
  case pos =>
    replace h := od_pos h h52
    refine wq_top h52 ?_
    refine wq_tsw rfl (by decide) (tgt := 157) rfl ?_
    refine wq_aload_n rfl rfl rfl ?_
    obtain ⟨y53, e54, h⟩ := od_bindE h
    refine wd_virtZ (q := 0) (y := y53) (as := [36893488147419103232]) rfl rfl rfl (by decide) (Nat.le_of_ble_eq_true rfl) (Nat.le_of_ble_eq_true rfl) rfl (Nat.le_of_ble_eq_true rfl) rfl (dkT_245 hT e54) (fun p55 T56 => ?_)
    exact wq_iret rfl (wm_zlt p55) (Nat.blt_eq.mpr p55) (wkOZ h T56 p55)
  replace h := od_neg h h52
  have i57 : a0 < 0 ∨ 9 ≤ a0 := by omega
  clear i51
  by_cases h58 : a0 = 9
  case pos =>
    replace h := od_pos h h58
    refine wq_top h58 ?_
    refine wq_tsw rfl (by decide) (tgt := 162) rfl ?_
    refine wq_aload_n rfl rfl rfl ?_
    obtain ⟨y59, e60, h⟩ := od_bindE h
    refine wd_virtZ (q := 0) (y := y59) (as := [36893488147419103232]) rfl rfl rfl (by decide) (Nat.le_of_ble_eq_true rfl) (Nat.le_of_ble_eq_true rfl) rfl (Nat.le_of_ble_eq_true rfl) rfl (dkT_273 hT e60) (fun p61 T62 => ?_)
    exact wq_iret rfl (wm_zlt p61) (Nat.blt_eq.mpr p61) (wkOZ h T62 p61)
  replace h := od_neg h h58
  have i63 : a0 < 0 ∨ 10 ≤ a0 := by omega
  clear i57
  by_cases h64 : a0 = 10
  case pos =>
    replace h := od_pos h h64
    refine wq_top h64 ?_
    refine wq_tsw rfl (by decide) (tgt := 167) rfl ?_
    refine wq_aload_n rfl rfl rfl ?_
    refine wq_iload_n rfl rfl ha1 ?_
    obtain ⟨y65, e66, h⟩ := od_bindE h
    refine wd_virtZ (q := 0) (y := y65) (as := [36893488147419103232, a1]) rfl rfl rfl (by decide) (Nat.le_of_ble_eq_true rfl) (Nat.le_of_ble_eq_true rfl) rfl (Nat.le_of_ble_eq_true rfl) rfl (dkT_274 hT ha1 e66) (fun p67 T68 => ?_)
    exact wq_iret rfl (wm_zlt p67) (Nat.blt_eq.mpr p67) (wkOZ h T68 p67)
  replace h := od_neg h h64
  have i69 : a0 < 0 ∨ 11 ≤ a0 := by omega
  clear i63
  by_cases h70 : a0 = 11
  case pos =>
    replace h := od_pos h h70
    refine wq_top h70 ?_
    refine wq_tsw rfl (by decide) (tgt := 173) rfl ?_
    refine wq_aload_n rfl rfl rfl ?_
    obtain ⟨y71, e72, h⟩ := od_bindE h
    refine wd_virtZ (q := 0) (y := y71) (as := [36893488147419103232]) rfl rfl rfl (by decide) (Nat.le_of_ble_eq_true rfl) (Nat.le_of_ble_eq_true rfl) rfl (Nat.le_of_ble_eq_true rfl) rfl (dkT_275 hT e72) (fun p73 T74 => ?_)
    exact wq_iret rfl (wm_zlt p73) (Nat.blt_eq.mpr p73) (wkOZ h T74 p73)
  replace h := od_neg h h70
  have i75 : a0 < 0 ∨ 12 ≤ a0 := by omega
  clear i69
  by_cases h76 : a0 = 12
  case pos =>
    replace h := od_pos h h76
    refine wq_top h76 ?_
    refine wq_tsw rfl (by decide) (tgt := 178) rfl ?_
    refine wq_aload_n rfl rfl rfl ?_
    refine wq_bipush rfl rfl ?_
    obtain ⟨y77, e78, h⟩ := od_bindE h
    refine wd_virtZ (q := 0) (y := y77) (as := [36893488147419103232, 41]) rfl rfl rfl (by decide) (Nat.le_of_ble_eq_true rfl) (Nat.le_of_ble_eq_true rfl) rfl (Nat.le_of_ble_eq_true rfl) rfl (dkT_213 hT (by decide) e78) (fun p79 T80 => ?_)
    exact wq_iret rfl (wm_zlt p79) (Nat.blt_eq.mpr p79) (wkOZ h T80 p79)
  replace h := od_neg h h76
  have i81 : a0 < 0 ∨ 13 ≤ a0 := by omega
  clear i75
  by_cases h82 : a0 = 13
  case pos =>
    replace h := od_pos h h82
    refine wq_top h82 ?_
    refine wq_tsw rfl (by decide) (tgt := 185) rfl ?_
    refine wq_aload_n rfl rfl rfl ?_
    refine wq_iload_n rfl rfl ha1 ?_
    obtain ⟨y83, e84, h⟩ := od_bindE h
    refine wd_virtZ (q := 0) (y := y83) (as := [36893488147419103232, a1]) rfl rfl rfl (by decide) (Nat.le_of_ble_eq_true rfl) (Nat.le_of_ble_eq_true rfl) rfl (Nat.le_of_ble_eq_true rfl) rfl (dkT_276 hT ha1 e84) (fun p85 T86 => ?_)
    exact wq_iret rfl (wm_zlt p85) (Nat.blt_eq.mpr p85) (wkOZ h T86 p85)
  replace h := od_neg h h82
  have i87 : a0 < 0 ∨ 14 ≤ a0 := by omega
  clear i81
  by_cases h88 : a0 = 14
  case pos =>
    replace h := od_pos h h88
    refine wq_top h88 ?_
    refine wq_tsw rfl (by decide) (tgt := 191) rfl ?_
    refine wq_aload_n rfl rfl rfl ?_
    refine wq_iload_n rfl rfl ha1 ?_
    obtain ⟨y89, e90, h⟩ := od_bindE h
    refine wd_virtZ (q := 0) (y := y89) (as := [36893488147419103232, a1]) rfl rfl rfl (by decide) (Nat.le_of_ble_eq_true rfl) (Nat.le_of_ble_eq_true rfl) rfl (Nat.le_of_ble_eq_true rfl) rfl (dkT_247 hT ha1 e90) (fun p91 T92 => ?_)
    exact wq_iret rfl (wm_zlt p91) (Nat.blt_eq.mpr p91) (wkOZ h T92 p91)
  replace h := od_neg h h88
  have i93 : a0 < 0 ∨ 15 ≤ a0 := by omega
  clear i87
  by_cases h94 : a0 = 15
  case pos =>
    replace h := od_pos h h94
    refine wq_top h94 ?_
    refine wq_tsw rfl (by decide) (tgt := 197) rfl ?_
    refine wq_aload_n rfl rfl rfl ?_
    refine wq_iload_n rfl rfl ha1 ?_
    refine wq_iload_n rfl rfl ha2 ?_
    obtain ⟨y95, e96, h⟩ := od_bindE h
    refine wd_virtZ (q := 0) (y := y95) (as := [36893488147419103232, a1, a2]) rfl rfl rfl (by decide) (Nat.le_of_ble_eq_true rfl) (Nat.le_of_ble_eq_true rfl) rfl (Nat.le_of_ble_eq_true rfl) rfl (dkT_249 hT ha1 ha2 e96) (fun p97 T98 => ?_)
    exact wq_iret rfl (wm_zlt p97) (Nat.blt_eq.mpr p97) (wkOZ h T98 p97)
  replace h := od_neg h h94
  have i99 : a0 < 0 ∨ 16 ≤ a0 := by omega
  clear i93
  by_cases h100 : a0 = 16
  case pos =>
    replace h := od_pos h h100
    refine wq_top h100 ?_
    refine wq_tsw rfl (by decide) (tgt := 204) rfl ?_
    refine wq_aload_n rfl rfl rfl ?_
    refine wq_bipush rfl rfl ?_
    refine wq_iload_n rfl rfl ha1 ?_
    refine wq_iload_n rfl rfl ha2 ?_
    refine wq_iload rfl rfl ha3 ?_
    obtain ⟨y101, e102, h⟩ := od_bindE h
    refine wd_virtN (q := 0) (y := y101) (as := [36893488147419103232, 17, a1, a2, a3]) rfl rfl rfl (by decide) (Nat.le_of_ble_eq_true rfl) (Nat.le_of_ble_eq_true rfl) rfl (Nat.le_of_ble_eq_true rfl) rfl (dkT_31 hT (by decide) ha1 ha2 ha3 e102) (fun T104 => ?_)
    refine wq_aload_n rfl rfl rfl ?_
    refine wq_iconst rfl rfl ?_
    refine wq_iconst rfl rfl ?_
    refine wq_iconst rfl rfl ?_
    refine wq_iconst rfl rfl ?_
    obtain ⟨y105, e106, h⟩ := od_bindE h
    refine wd_virtN (q := 0) (y := y105) (as := [36893488147419103232, 3, 0, 0, 0]) rfl rfl rfl (by decide) (Nat.le_of_ble_eq_true rfl) (Nat.le_of_ble_eq_true rfl) rfl (Nat.le_of_ble_eq_true rfl) rfl (dkT_31 T104 (by decide) (wm_zlt (by decide)) (wm_zlt (by decide)) (wm_zlt (by decide)) e106) (fun T108 => ?_)
    refine wq_aload_n rfl rfl rfl ?_
    refine wq_bipush rfl rfl ?_
    obtain ⟨y109, e110, h⟩ := od_bindE h
    refine wd_virtZ (q := 0) (y := y109) (as := [36893488147419103232, 93]) rfl rfl rfl (by decide) (Nat.le_of_ble_eq_true rfl) (Nat.le_of_ble_eq_true rfl) rfl (Nat.le_of_ble_eq_true rfl) rfl (dkT_213 T108 (by decide) e110) (fun p111 T112 => ?_)
    refine wq_if_eq rfl rfl (wm_zlt p111) (fun h113 => ?_) (fun h113 => ?_)
    · replace h := od_pos h h113
      refine wq_iconst rfl rfl ?_
      exact wq_iret rfl (wm_zlt (by decide)) (Nat.blt_eq.mpr (by decide)) (wkOZ h T112 (by decide))
    · replace h := od_neg h h113
      refine wq_aload_n rfl rfl rfl ?_
      refine wq_bipush rfl rfl ?_
      obtain ⟨y114, e115, h⟩ := od_bindE h
      refine wd_virtZ (q := 0) (y := y114) (as := [36893488147419103232, 61]) rfl rfl rfl (by decide) (Nat.le_of_ble_eq_true rfl) (Nat.le_of_ble_eq_true rfl) rfl (Nat.le_of_ble_eq_true rfl) rfl (dkT_213 T112 (by decide) e115) (fun p116 T117 => ?_)
      refine wq_if_eq rfl rfl (wm_zlt p116) (fun h118 => ?_) (fun h118 => ?_)
      · replace h := od_pos h h118
        refine wq_iconst rfl rfl ?_
        exact wq_iret rfl (wm_zlt (by decide)) (Nat.blt_eq.mpr (by decide)) (wkOZ h T117 (by decide))
      · replace h := od_neg h h118
        refine wq_iconst rfl rfl ?_
        refine wq_goto rfl rfl ?_
        exact wq_iret rfl (wm_zlt (by decide)) (Nat.blt_eq.mpr (by decide)) (wkOZ h T117 (by decide))
  replace h := od_neg h h100
  have i119 : a0 < 0 ∨ 17 ≤ a0 := by omega
  clear i99
  by_cases h120 : a0 = 17
  case pos =>
    replace h := od_pos h h120
    refine wq_top h120 ?_
    refine wq_tsw rfl (by decide) (tgt := 246) rfl ?_
    refine wq_aload_n rfl rfl rfl ?_
    refine wq_iload_n rfl rfl ha1 ?_
    refine wq_iload_n rfl rfl ha2 ?_
    refine wq_iload rfl rfl ha3 ?_
    obtain ⟨y121, e122, h⟩ := od_bindE h
    refine wd_virtZ (q := 0) (y := y121) (as := [36893488147419103232, a1, a2, a3]) rfl rfl rfl (by decide) (Nat.le_of_ble_eq_true rfl) (Nat.le_of_ble_eq_true rfl) rfl (Nat.le_of_ble_eq_true rfl) rfl (dkT_251 hT ha1 ha2 ha3 e122) (fun p123 T124 => ?_)
    exact wq_iret rfl (wm_zlt p123) (Nat.blt_eq.mpr p123) (wkOZ h T124 p123)
  replace h := od_neg h h120
  have i125 : a0 < 0 ∨ 18 ≤ a0 := by omega
  clear i119
  by_cases h126 : a0 = 18
  case pos =>
    replace h := od_pos h h126
    refine wq_top h126 ?_
    refine wq_tsw rfl (by decide) (tgt := 255) rfl ?_
    refine wq_aload_n rfl rfl rfl ?_
    refine wq_iload_n rfl rfl ha1 ?_
    refine wq_iload_n rfl rfl ha2 ?_
    obtain ⟨y127, e128, h⟩ := od_bindE h
    refine wd_virtZ (q := 0) (y := y127) (as := [36893488147419103232, a1, a2]) rfl rfl rfl (by decide) (Nat.le_of_ble_eq_true rfl) (Nat.le_of_ble_eq_true rfl) rfl (Nat.le_of_ble_eq_true rfl) rfl (dkT_252 hT ha1 ha2 e128) (fun p129 T130 => ?_)
    exact wq_iret rfl (wm_zlt p129) (Nat.blt_eq.mpr p129) (wkOZ h T130 p129)
  replace h := od_neg h h126
  have i131 : a0 < 0 ∨ 19 ≤ a0 := by omega
  clear i125
  by_cases h132 : a0 = 19
  case pos =>
    replace h := od_pos h h132
    refine wq_top h132 ?_
    refine wq_tsw rfl (by decide) (tgt := 262) rfl ?_
    refine wq_aload_n rfl rfl rfl ?_
    refine wq_iload_n rfl rfl ha1 ?_
    obtain ⟨y133, e134, h⟩ := od_bindE h
    refine wd_virtZ (q := 0) (y := y133) (as := [36893488147419103232, a1]) rfl rfl rfl (by decide) (Nat.le_of_ble_eq_true rfl) (Nat.le_of_ble_eq_true rfl) rfl (Nat.le_of_ble_eq_true rfl) rfl (dkT_253 hT ha1 e134) (fun p135 T136 => ?_)
    exact wq_iret rfl (wm_zlt p135) (Nat.blt_eq.mpr p135) (wkOZ h T136 p135)
  replace h := od_neg h h132
  have i137 : a0 < 0 ∨ 20 ≤ a0 := by omega
  clear i131
  by_cases h138 : a0 = 20
  case pos =>
    replace h := od_pos h h138
    refine wq_top h138 ?_
    refine wq_tsw rfl (by decide) (tgt := 268) rfl ?_
    refine wq_aload_n rfl rfl rfl ?_
    refine wq_iload_n rfl rfl ha1 ?_
    refine wq_iload_n rfl rfl ha2 ?_
    obtain ⟨y139, e140, h⟩ := od_bindE h
    refine wd_virtZ (q := 0) (y := y139) (as := [36893488147419103232, a1, a2]) rfl rfl rfl (by decide) (Nat.le_of_ble_eq_true rfl) (Nat.le_of_ble_eq_true rfl) rfl (Nat.le_of_ble_eq_true rfl) rfl (dkT_255 hT ha1 ha2 e140) (fun p141 T142 => ?_)
    exact wq_iret rfl (wm_zlt p141) (Nat.blt_eq.mpr p141) (wkOZ h T142 p141)
  replace h := od_neg h h138
  have i143 : a0 < 0 ∨ 21 ≤ a0 := by omega
  clear i137
  refine wq_tswD rfl ha0 (by unfold ev_si ev_s; omega) rfl (tgt := 275) rfl ?_
  refine wq_aload_n rfl rfl rfl ?_
  refine wq_iload_n rfl rfl ha0 ?_
  refine wq_iload_n rfl rfl ha1 ?_
  refine wq_iload_n rfl rfl ha2 ?_
  refine wq_iload rfl rfl ha3 ?_
  obtain ⟨y144, e145, h⟩ := od_bindE h
  refine wd_virtZ (q := 0) (y := y144) (as := [36893488147419103232, a0, a1, a2, a3]) rfl rfl rfl (by decide) (Nat.le_of_ble_eq_true rfl) (Nat.le_of_ble_eq_true rfl) rfl (Nat.le_of_ble_eq_true rfl) rfl (dkT_37 hT ha0 ha1 ha2 ha3 e145) (fun p146 T147 => ?_)
  exact wq_iret rfl (wm_zlt p146) (Nat.blt_eq.mpr p146) (wkOZ h T147 p146)
def dk_29_214 (n : Nat) (F : wq_F) (v2 : Nat) : Option (Nat × wq_F) :=
  (dk_30 F 14 0 0 0).bind fun y1 =>
  (dk_30 y1.2 38 0 0 0).bind fun y5 =>
  some (v2, y5.2)
theorem dk_29_214T {d n : Nat} : ∀ ⦃u1 : Nat⦄ ⦃F : wq_F⦄ (hT : wm_T F) ⦃v2 : Nat⦄ (hv2 : v2 < 2) (hu1 : ev_isL u1 = false) ⦃x : Nat × wq_F⦄ (h : dk_29_214 n F v2 = some x), wq (wq_cf (d + 7)) (ev_un al_mX12_readText.2.2.2.2) (some .boolean) 214 [36893488147419103232, u1, v2] [] wm_sh F 0 0 (wkZ wm_T wm_sh x) := by
  intro u1 F hT v2 hv2 hu1 x h
  unfold dk_29_214 at h
  refine wq_aload_n rfl rfl rfl ?_
  refine wq_bipush rfl rfl ?_
  refine wq_iconst rfl rfl ?_
  refine wq_iconst rfl rfl ?_
  refine wq_iconst rfl rfl ?_
  obtain ⟨y1, e2, h⟩ := od_bindE h
  refine wd_virtI (q := 0) (y := y1) (as := [36893488147419103232, 14, 0, 0, 0]) rfl rfl rfl (by decide) (Nat.le_of_ble_eq_true rfl) (Nat.le_of_ble_eq_true rfl) rfl (Nat.le_of_ble_eq_true rfl) rfl (dkT_30 hT (by decide) (wm_zlt (by decide)) (wm_zlt (by decide)) (wm_zlt (by decide)) e2) (fun p3 T4 => ?_)
  refine wq_istore_n rfl p3 (Nat.le_of_ble_eq_true rfl) (Or.inr ⟨_, rfl, rfl⟩) (L' := [36893488147419103232, y1.1, v2]) rfl ?_
  refine wq_aload_n rfl rfl rfl ?_
  refine wq_bipush rfl rfl ?_
  refine wq_iconst rfl rfl ?_
  refine wq_iconst rfl rfl ?_
  refine wq_iconst rfl rfl ?_
  obtain ⟨y5, e6, h⟩ := od_bindE h
  refine wd_virtI (q := 0) (y := y5) (as := [36893488147419103232, 38, 0, 0, 0]) rfl rfl rfl (by decide) (Nat.le_of_ble_eq_true rfl) (Nat.le_of_ble_eq_true rfl) rfl (Nat.le_of_ble_eq_true rfl) rfl (dkT_30 T4 (by decide) (wm_zlt (by decide)) (wm_zlt (by decide)) (wm_zlt (by decide)) e6) (fun p7 T8 => ?_)
  refine wq_istore_n rfl p7 (Nat.le_of_ble_eq_true rfl) (Or.inr ⟨_, rfl, rfl⟩) (L' := [36893488147419103232, y5.1, v2]) rfl ?_
  refine wq_iload_n rfl rfl (wm_zlt hv2) ?_
  exact wq_iret rfl (wm_zlt hv2) (Nat.blt_eq.mpr hv2) (wkOZ h T8 hv2)
def dk_29_134b (n : Nat) (r134 : wq_F → Nat → Option (Nat × wq_F)) (F : wq_F) (v2 : Nat) : Option (Nat × wq_F) :=
  if 0 < (F 0 46) ∧ (F 0 46) < 2147483648 then
    if v2 = 0 then
      dk_29_214 n F v2
    else
      od_let (((F 0 46) + (4294967296 - 1)) % 4294967296) fun y3 =>
      od_up F 0 46 y3 fun F6 =>
      od_g (F6 0 46 < 4000) <|
      od_g (F6 0 46 < 4000) <|
      od_g (F6 0 46 < 4000) <|
      od_g (F6 0 46 < 4000) <|
      (dk_32 n F6 (F6 25 (F6 0 46)) (F6 26 (F6 0 46)) (F6 27 (F6 0 46)) (F6 28 (F6 0 46))).bind fun y13 =>
      if y13.1 = 0 then
        r134 y13.2 0
      else
        if (y13.2 0 4) = 0 then
          r134 y13.2 1
        else
          r134 y13.2 0
  else
    dk_29_214 n F v2
theorem dk_29_134bT {d n : Nat} {r134 : wq_F → Nat → Option (Nat × wq_F)} (hr134 : ∀ ⦃u1 : Nat⦄ ⦃F : wq_F⦄ (hT : wm_T F) ⦃v2 : Nat⦄ (hv2 : v2 < 2) (hu1 : ev_isL u1 = false) ⦃x : Nat × wq_F⦄ (h : r134 F v2 = some x), wq (wq_cf (d + 7)) (ev_un al_mX12_readText.2.2.2.2) (some .boolean) 134 [36893488147419103232, u1, v2] [] wm_sh F 0 0 (wkZ wm_T wm_sh x)) : ∀ ⦃u1 : Nat⦄ ⦃F : wq_F⦄ (hT : wm_T F) ⦃v2 : Nat⦄ (hv2 : v2 < 2) (hu1 : ev_isL u1 = false) ⦃x : Nat × wq_F⦄ (h : dk_29_134b n r134 F v2 = some x), wq (wq_cf (d + 7)) (ev_un al_mX12_readText.2.2.2.2) (some .boolean) 134 [36893488147419103232, u1, v2] [] wm_sh F 0 0 (wkZ wm_T wm_sh x) := by
  intro u1 F hT v2 hv2 hu1 x h
  unfold dk_29_134b at h
  refine wq_aload_n rfl rfl rfl ?_
  refine wm_getI rfl (by decide) ?_
  refine wq_if_le rfl rfl (hT.i 46 rfl) (fun h1 => ?_) (fun h1 => ?_)
  · replace h := od_neg h h1
    exact dk_29_214T hT hv2 hu1 h
  · replace h := od_pos h h1
    refine wq_iload_n rfl rfl (wm_zlt hv2) ?_
    refine wq_if_eq rfl rfl (wm_zlt hv2) (fun h2 => ?_) (fun h2 => ?_)
    · replace h := od_pos h h2
      exact dk_29_214T hT hv2 hu1 h
    · replace h := od_neg h h2
      refine wq_aload_n rfl rfl rfl ?_
      refine wq_dup rfl rfl ?_
      refine wm_getI rfl (by decide) ?_
      refine wq_iconst rfl rfl ?_
      refine wq_isubZ rfl (hT.i 46 rfl) (wm_zlt (by decide)) (z := ((F 0 46) + (4294967296 - 1)) % 4294967296) rfl ?_
      obtain ⟨y3, e4, h⟩ := od_letE h
      refine wq_top e4.symm ?_
      have p5 : y3 < 4294967296 := wd_lt e4 (Nat.mod_lt _ (by decide))
      obtain ⟨F6, e7, h⟩ := od_upE h
      refine wmE_put rfl (by decide) (wq_I p5) e7 ?_
      have T8 : wm_T F6 := wd_T e7 (hT.uf (f := 46) (c := 0) (v := y3) rfl (show y3 < 4294967296 from p5))
      refine wq_aload_n rfl rfl rfl ?_
      refine wq_aload_n rfl rfl rfl ?_
      refine wm_getR (v := 36893488147419103257) rfl (by decide) (T8.r 42 24 rfl) ?_
      refine wq_aload_n rfl rfl rfl ?_
      refine wm_getI rfl (by decide) ?_
      obtain ⟨g9, h⟩ := od_gE h
      refine wq_iaload (q := 25) (n := 4000) rfl rfl (by decide) g9 (by decide) ?_
      refine wq_aload_n rfl rfl rfl ?_
      refine wm_getR (v := 36893488147419103258) rfl (by decide) (T8.r 43 25 rfl) ?_
      refine wq_aload_n rfl rfl rfl ?_
      refine wm_getI rfl (by decide) ?_
      obtain ⟨g10, h⟩ := od_gE h
      refine wq_iaload (q := 26) (n := 4000) rfl rfl (by decide) g10 (by decide) ?_
      refine wq_aload_n rfl rfl rfl ?_
      refine wm_getR (v := 36893488147419103259) rfl (by decide) (T8.r 44 26 rfl) ?_
      refine wq_aload_n rfl rfl rfl ?_
      refine wm_getI rfl (by decide) ?_
      obtain ⟨g11, h⟩ := od_gE h
      refine wq_iaload (q := 27) (n := 4000) rfl rfl (by decide) g11 (by decide) ?_
      refine wq_aload_n rfl rfl rfl ?_
      refine wm_getR (v := 36893488147419103260) rfl (by decide) (T8.r 45 27 rfl) ?_
      refine wq_aload_n rfl rfl rfl ?_
      refine wm_getI rfl (by decide) ?_
      obtain ⟨g12, h⟩ := od_gE h
      refine wq_iaload (q := 28) (n := 4000) rfl rfl (by decide) g12 (by decide) ?_
      obtain ⟨y13, e14, h⟩ := od_bindE h
      refine wd_virtZ (q := 0) (y := y13) (as := [36893488147419103232, F6 25 (F6 0 46), F6 26 (F6 0 46), F6 27 (F6 0 46), F6 28 (F6 0 46)]) rfl rfl rfl (by decide) (Nat.le_of_ble_eq_true rfl) (Nat.le_of_ble_eq_true rfl) rfl (Nat.le_of_ble_eq_true rfl) rfl (dkT_32 T8 (T8.ai (k := 25) rfl g9) (T8.ai (k := 26) rfl g10) (T8.ai (k := 27) rfl g11) (T8.ai (k := 28) rfl g12) e14) (fun p15 T16 => ?_)
      refine wq_if_eq rfl rfl (wm_zlt p15) (fun h17 => ?_) (fun h17 => ?_)
      · replace h := od_pos h h17
        refine wq_iconst rfl rfl ?_
        refine wq_istore_n rfl (wm_zlt (by decide)) (Nat.le_of_ble_eq_true rfl) (Or.inr ⟨_, rfl, hu1⟩) (L' := [36893488147419103232, u1, 0]) rfl ?_
        refine wq_goto rfl rfl ?_
        exact hr134 T16 (by decide) hu1 h
      · replace h := od_neg h h17
        refine wq_aload_n rfl rfl rfl ?_
        refine wm_getI rfl (by decide) ?_
        refine wq_if_ne rfl rfl (T16.i 4 rfl) (fun h18 => ?_) (fun h18 => ?_)
        · replace h := od_neg h h18
          refine wq_iconst rfl rfl ?_
          refine wq_istore_n rfl (wm_zlt (by decide)) (Nat.le_of_ble_eq_true rfl) (Or.inr ⟨_, rfl, hu1⟩) (L' := [36893488147419103232, u1, 0]) rfl ?_
          refine wq_goto rfl rfl ?_
          exact hr134 T16 (by decide) hu1 h
        · replace h := od_pos h h18
          refine wq_iconst rfl rfl ?_
          refine wq_goto rfl rfl ?_
          refine wq_istore_n rfl (wm_zlt (by decide)) (Nat.le_of_ble_eq_true rfl) (Or.inr ⟨_, rfl, hu1⟩) (L' := [36893488147419103232, u1, 1]) rfl ?_
          refine wq_goto rfl rfl ?_
          exact hr134 T16 (by decide) hu1 h
def dk_29_134 (n : Nat) : Nat → wq_F → Nat → Option (Nat × wq_F)
  | 0 => fun _ _ => none
  | g + 1 => dk_29_134b n (dk_29_134 n g)
theorem dk_29_134T {d n : Nat} : ∀ g : Nat, ∀ ⦃u1 : Nat⦄ ⦃F : wq_F⦄ (hT : wm_T F) ⦃v2 : Nat⦄ (hv2 : v2 < 2) (hu1 : ev_isL u1 = false) ⦃x : Nat × wq_F⦄ (h : dk_29_134 n g F v2 = some x), wq (wq_cf (d + 7)) (ev_un al_mX12_readText.2.2.2.2) (some .boolean) 134 [36893488147419103232, u1, v2] [] wm_sh F 0 0 (wkZ wm_T wm_sh x)
  | 0 => by
    intro u1 F hT v2 hv2 hu1 x h
    cases h
  | g + 1 => dk_29_134bT (dk_29_134T g)
/-- X12_readText -/
def dk_29 (n : Nat) (F : wq_F) : Option (Nat × wq_F) :=
  od_up F 0 25 0 fun F1 =>
  od_up F1 0 46 0 fun F4 =>
  od_up F4 0 47 0 fun F7 =>
  od_up F7 0 50 0 fun F10 =>
  od_up F10 0 53 0 fun F13 =>
  od_g (0 < 52) <|
  od_up F13 31 0 0 fun F17 =>
  od_g (0 < 52) <|
  od_up F17 32 0 0 fun F21 =>
  od_up F21 0 56 0 fun F24 =>
  od_up F24 0 60 0 fun F27 =>
  od_up F27 0 41 0 fun F30 =>
  od_up F30 0 40 0 fun F33 =>
  od_up F33 0 34 1 fun F36 =>
  od_g (0 < 51) <|
  od_up F36 14 0 0 fun F40 =>
  od_g (0 < 51) <|
  od_up F40 15 0 0 fun F44 =>
  od_g (0 < 51) <|
  od_up F44 13 0 0 fun F48 =>
  od_g (0 < 51) <|
  od_up F48 16 0 1 fun F52 =>
  od_g (0 < 51) <|
  od_up F52 17 0 0 fun F56 =>
  od_g (0 < 51) <|
  od_up F56 12 0 0 fun F60 =>
  (dk_30 F60 0 0 0 0).bind fun y63 =>
  (dk_31 y63.2 42 0 0 0).bind fun y67 =>
  (dk_31 y67.2 0 0 0 0).bind fun y71 =>
  dk_29_134 n n y71.2 1
theorem dkT_29 {d n : Nat} {F : wq_F} (hT : wm_T F) {x : Nat × wq_F} (h : dk_29 n F = some x) : mq (d + 7 + 1) 29 [36893488147419103232] wm_sh F (wkZ wm_T wm_sh x) := by
  have e : ev_ent [36893488147419103232] = [36893488147419103232] := by
    rfl
  refine mq_of (maxL := 3) (rt := (some .boolean)) (code := (ev_un al_mX12_readText.2.2.2.2)) (L := [36893488147419103232, 73786976294838206464, 73786976294838206464]) rfl (by rw [e]; exact Nat.le_of_ble_eq_true rfl) (by rw [e]; rfl) ?_
  unfold dk_29 at h
  refine wq_aload_n rfl rfl rfl ?_
  refine wq_iconst rfl rfl ?_
  obtain ⟨F1, e2, h⟩ := od_upE h
  refine wmE_put rfl (by decide) (wq_I (wm_zlt (by decide))) e2 ?_
  have T3 : wm_T F1 := wd_T e2 (hT.uf (f := 25) (c := 0) (v := 0) rfl (show 0 < 4294967296 from (wm_zlt (by decide))))
  refine wq_aload_n rfl rfl rfl ?_
  refine wq_iconst rfl rfl ?_
  obtain ⟨F4, e5, h⟩ := od_upE h
  refine wmE_put rfl (by decide) (wq_I (wm_zlt (by decide))) e5 ?_
  have T6 : wm_T F4 := wd_T e5 (T3.uf (f := 46) (c := 0) (v := 0) rfl (show 0 < 4294967296 from (wm_zlt (by decide))))
  refine wq_aload_n rfl rfl rfl ?_
  refine wq_iconst rfl rfl ?_
  obtain ⟨F7, e8, h⟩ := od_upE h
  refine wmE_put rfl (by decide) (wq_I (wm_zlt (by decide))) e8 ?_
  have T9 : wm_T F7 := wd_T e8 (T6.uf (f := 47) (c := 0) (v := 0) rfl (show 0 < 4294967296 from (wm_zlt (by decide))))
  refine wq_aload_n rfl rfl rfl ?_
  refine wq_iconst rfl rfl ?_
  obtain ⟨F10, e11, h⟩ := od_upE h
  refine wmE_put rfl (by decide) (wq_I (wm_zlt (by decide))) e11 ?_
  have T12 : wm_T F10 := wd_T e11 (T9.uf (f := 50) (c := 0) (v := 0) rfl (show 0 < 4294967296 from (wm_zlt (by decide))))
  refine wq_aload_n rfl rfl rfl ?_
  refine wq_iconst rfl rfl ?_
  obtain ⟨F13, e14, h⟩ := od_upE h
  refine wmE_put rfl (by decide) (wq_I (wm_zlt (by decide))) e14 ?_
  have T15 : wm_T F13 := wd_T e14 (T12.uf (f := 53) (c := 0) (v := 0) rfl (show 0 < 4294967296 from (wm_zlt (by decide))))
  refine wq_aload_n rfl rfl rfl ?_
  refine wm_getR (v := 36893488147419103263) rfl (by decide) (T15.r 51 30 rfl) ?_
  refine wq_iconst rfl rfl ?_
  refine wq_iconst rfl rfl ?_
  obtain ⟨g16, h⟩ := od_gE h
  obtain ⟨F17, e18, h⟩ := od_upE h
  refine wd_iastore (q := 31) (n := 52) rfl rfl (by decide) g16 (by decide) (wm_zlt (by decide)) e18 ?_
  have T19 : wm_T F17 := wd_T e18 (T15.ua (k := 31) (kd := 1000) (n := 52) (i := 0) (v := 0) rfl (by decide) g16 (show 0 < 4294967296 from (wm_zlt (by decide))))
  refine wq_aload_n rfl rfl rfl ?_
  refine wm_getR (v := 36893488147419103264) rfl (by decide) (T19.r 52 31 rfl) ?_
  refine wq_iconst rfl rfl ?_
  refine wq_iconst rfl rfl ?_
  obtain ⟨g20, h⟩ := od_gE h
  obtain ⟨F21, e22, h⟩ := od_upE h
  refine wd_iastore (q := 32) (n := 52) rfl rfl (by decide) g20 (by decide) (wm_zlt (by decide)) e22 ?_
  have T23 : wm_T F21 := wd_T e22 (T19.ua (k := 32) (kd := 1000) (n := 52) (i := 0) (v := 0) rfl (by decide) g20 (show 0 < 4294967296 from (wm_zlt (by decide))))
  refine wq_aload_n rfl rfl rfl ?_
  refine wq_iconst rfl rfl ?_
  obtain ⟨F24, e25, h⟩ := od_upE h
  refine wmE_put rfl (by decide) (wq_I (wm_zlt (by decide))) e25 ?_
  have T26 : wm_T F24 := wd_T e25 (T23.uf (f := 56) (c := 0) (v := 0) rfl (show 0 < 4294967296 from (wm_zlt (by decide))))
  refine wq_aload_n rfl rfl rfl ?_
  refine wq_iconst rfl rfl ?_
  obtain ⟨F27, e28, h⟩ := od_upE h
  refine wmE_put rfl (by decide) (wq_I (wm_zlt (by decide))) e28 ?_
  have T29 : wm_T F27 := wd_T e28 (T26.uf (f := 60) (c := 0) (v := 0) rfl (show 0 < 4294967296 from (wm_zlt (by decide))))
  refine wq_aload_n rfl rfl rfl ?_
  refine wq_iconst rfl rfl ?_
  obtain ⟨F30, e31, h⟩ := od_upE h
  refine wmE_put rfl (by decide) (wq_I (wm_zlt (by decide))) e31 ?_
  have T32 : wm_T F30 := wd_T e31 (T29.uf (f := 41) (c := 0) (v := 0) rfl (show 0 < 4294967296 from (wm_zlt (by decide))))
  refine wq_aload_n rfl rfl rfl ?_
  refine wq_iconst rfl rfl ?_
  obtain ⟨F33, e34, h⟩ := od_upE h
  refine wmE_put rfl (by decide) (wq_I (wm_zlt (by decide))) e34 ?_
  have T35 : wm_T F33 := wd_T e34 (T32.uf (f := 40) (c := 0) (v := 0) rfl (show 0 < 4294967296 from (wm_zlt (by decide))))
  refine wq_aload_n rfl rfl rfl ?_
  refine wq_iconst rfl rfl ?_
  obtain ⟨F36, e37, h⟩ := od_upE h
  refine wmE_put rfl (by decide) (wq_I (wm_zlt (by decide))) e37 ?_
  have T38 : wm_T F36 := wd_T e37 (T35.uf (f := 34) (c := 0) (v := 1) rfl (show 1 < 4294967296 from (wm_zlt (by decide))))
  refine wq_aload_n rfl rfl rfl ?_
  refine wm_getR (v := 36893488147419103246) rfl (by decide) (T38.r 28 13 rfl) ?_
  refine wq_iconst rfl rfl ?_
  refine wq_iconst rfl rfl ?_
  obtain ⟨g39, h⟩ := od_gE h
  obtain ⟨F40, e41, h⟩ := od_upE h
  refine wd_iastore (q := 14) (n := 51) rfl rfl (by decide) g39 (by decide) (wm_zlt (by decide)) e41 ?_
  have T42 : wm_T F40 := wd_T e41 (T38.ua (k := 14) (kd := 1000) (n := 51) (i := 0) (v := 0) rfl (by decide) g39 (show 0 < 4294967296 from (wm_zlt (by decide))))
  refine wq_aload_n rfl rfl rfl ?_
  refine wm_getR (v := 36893488147419103247) rfl (by decide) (T42.r 29 14 rfl) ?_
  refine wq_iconst rfl rfl ?_
  refine wq_iconst rfl rfl ?_
  obtain ⟨g43, h⟩ := od_gE h
  obtain ⟨F44, e45, h⟩ := od_upE h
  refine wd_iastore (q := 15) (n := 51) rfl rfl (by decide) g43 (by decide) (wm_zlt (by decide)) e45 ?_
  have T46 : wm_T F44 := wd_T e45 (T42.ua (k := 15) (kd := 1000) (n := 51) (i := 0) (v := 0) rfl (by decide) g43 (show 0 < 4294967296 from (wm_zlt (by decide))))
  refine wq_aload_n rfl rfl rfl ?_
  refine wm_getR (v := 36893488147419103245) rfl (by decide) (T46.r 27 12 rfl) ?_
  refine wq_iconst rfl rfl ?_
  refine wq_iconst rfl rfl ?_
  obtain ⟨g47, h⟩ := od_gE h
  obtain ⟨F48, e49, h⟩ := od_upE h
  refine wd_iastore (q := 13) (n := 51) rfl rfl (by decide) g47 (by decide) (wm_zlt (by decide)) e49 ?_
  have T50 : wm_T F48 := wd_T e49 (T46.ua (k := 13) (kd := 1000) (n := 51) (i := 0) (v := 0) rfl (by decide) g47 (show 0 < 4294967296 from (wm_zlt (by decide))))
  refine wq_aload_n rfl rfl rfl ?_
  refine wm_getR (v := 36893488147419103248) rfl (by decide) (T50.r 30 15 rfl) ?_
  refine wq_iconst rfl rfl ?_
  refine wq_iconst rfl rfl ?_
  obtain ⟨g51, h⟩ := od_gE h
  obtain ⟨F52, e53, h⟩ := od_upE h
  refine wd_zastore (q := 16) (n := 51) rfl rfl (by decide) g51 (by decide) (by decide) e53 ?_
  have T54 : wm_T F52 := wd_T e53 (T50.ua (k := 16) (kd := 1002) (n := 51) (i := 0) (v := 1) rfl (by decide) g51 (show 1 < 2 from (by decide)))
  refine wq_aload_n rfl rfl rfl ?_
  refine wm_getR (v := 36893488147419103249) rfl (by decide) (T54.r 31 16 rfl) ?_
  refine wq_iconst rfl rfl ?_
  refine wq_iconst rfl rfl ?_
  obtain ⟨g55, h⟩ := od_gE h
  obtain ⟨F56, e57, h⟩ := od_upE h
  refine wd_iastore (q := 17) (n := 51) rfl rfl (by decide) g55 (by decide) (wm_zlt (by decide)) e57 ?_
  have T58 : wm_T F56 := wd_T e57 (T54.ua (k := 17) (kd := 1000) (n := 51) (i := 0) (v := 0) rfl (by decide) g55 (show 0 < 4294967296 from (wm_zlt (by decide))))
  refine wq_aload_n rfl rfl rfl ?_
  refine wm_getR (v := 36893488147419103244) rfl (by decide) (T58.r 26 11 rfl) ?_
  refine wq_iconst rfl rfl ?_
  refine wq_iconst rfl rfl ?_
  obtain ⟨g59, h⟩ := od_gE h
  obtain ⟨F60, e61, h⟩ := od_upE h
  refine wd_iastore (q := 12) (n := 51) rfl rfl (by decide) g59 (by decide) (wm_zlt (by decide)) e61 ?_
  have T62 : wm_T F60 := wd_T e61 (T58.ua (k := 12) (kd := 1000) (n := 51) (i := 0) (v := 0) rfl (by decide) g59 (show 0 < 4294967296 from (wm_zlt (by decide))))
  refine wq_aload_n rfl rfl rfl ?_
  refine wq_iconst rfl rfl ?_
  refine wq_iconst rfl rfl ?_
  refine wq_iconst rfl rfl ?_
  refine wq_iconst rfl rfl ?_
  obtain ⟨y63, e64, h⟩ := od_bindE h
  refine wd_virtI (q := 0) (y := y63) (as := [36893488147419103232, 0, 0, 0, 0]) rfl rfl rfl (by decide) (Nat.le_of_ble_eq_true rfl) (Nat.le_of_ble_eq_true rfl) rfl (Nat.le_of_ble_eq_true rfl) rfl (dkT_30 T62 (wm_zlt (by decide)) (wm_zlt (by decide)) (wm_zlt (by decide)) (wm_zlt (by decide)) e64) (fun p65 T66 => ?_)
  refine wq_istore_n rfl p65 (Nat.le_of_ble_eq_true rfl) (Or.inr ⟨_, rfl, rfl⟩) (L' := [36893488147419103232, y63.1, 73786976294838206464]) rfl ?_
  refine wq_aload_n rfl rfl rfl ?_
  refine wq_bipush rfl rfl ?_
  refine wq_iconst rfl rfl ?_
  refine wq_iconst rfl rfl ?_
  refine wq_iconst rfl rfl ?_
  obtain ⟨y67, e68, h⟩ := od_bindE h
  refine wd_virtN (q := 0) (y := y67) (as := [36893488147419103232, 42, 0, 0, 0]) rfl rfl rfl (by decide) (Nat.le_of_ble_eq_true rfl) (Nat.le_of_ble_eq_true rfl) rfl (Nat.le_of_ble_eq_true rfl) rfl (dkT_31 T66 (by decide) (wm_zlt (by decide)) (wm_zlt (by decide)) (wm_zlt (by decide)) e68) (fun T70 => ?_)
  refine wq_aload_n rfl rfl rfl ?_
  refine wq_iconst rfl rfl ?_
  refine wq_iconst rfl rfl ?_
  refine wq_iconst rfl rfl ?_
  refine wq_iconst rfl rfl ?_
  obtain ⟨y71, e72, h⟩ := od_bindE h
  refine wd_virtN (q := 0) (y := y71) (as := [36893488147419103232, 0, 0, 0, 0]) rfl rfl rfl (by decide) (Nat.le_of_ble_eq_true rfl) (Nat.le_of_ble_eq_true rfl) rfl (Nat.le_of_ble_eq_true rfl) rfl (dkT_31 T70 (wm_zlt (by decide)) (wm_zlt (by decide)) (wm_zlt (by decide)) (wm_zlt (by decide)) e72) (fun T74 => ?_)
  refine wq_iconst rfl rfl ?_
  refine wq_istore_n rfl (wm_zlt (by decide)) (Nat.le_of_ble_eq_true rfl) (Or.inr ⟨_, rfl, (wq_notL p65)⟩) (L' := [36893488147419103232, y63.1, 1]) rfl ?_
  exact dk_29_134T n T74 (by decide) (wq_notL p65) h
def dk_46_139b (n : Nat) (r139 : wq_F → Nat → Option (Nat × wq_F)) (F : wq_F) (v1 : Nat) : Option (Nat × wq_F) :=
  if 2147483648 ≤ v1 then
    od_up F 0 77 0 fun F2 =>
    od_up F2 0 78 18446744073709551616 fun F5 =>
    od_up F5 0 110 0 fun F8 =>
    od_up F8 0 152 0 fun F11 =>
    od_up F11 0 153 0 fun F14 =>
    od_up F14 0 150 0 fun F17 =>
    od_up F17 0 145 18446744073709551616 fun F20 =>
    od_up F20 0 143 0 fun F23 =>
    od_up F23 0 148 0 fun F26 =>
    some (0, F26)
  else
    od_g (F 0 96 < 95000) <|
    od_up F 57 (F 0 96) v1 fun F30 =>
    od_let (((F30 0 96) + 1) % 4294967296) fun y33 =>
    od_up F30 0 96 y33 fun F36 =>
    od_let ((v1 + 4294967295) % 4294967296) fun y39 =>
    r139 F36 y39
theorem dk_46_139bT {d n : Nat} {r139 : wq_F → Nat → Option (Nat × wq_F)} (hr139 : ∀ ⦃F : wq_F⦄ (hT : wm_T F) ⦃v1 : Nat⦄ (hv1 : v1 < 4294967296) ⦃x : Nat × wq_F⦄ (h : r139 F v1 = some x), wq (wq_cf (d + 1)) (ev_un al_mX12_forget.2.2.2.2) none 139 [36893488147419103232, v1] [] wm_sh F 0 0 (wkN wm_T wm_sh x)) : ∀ ⦃F : wq_F⦄ (hT : wm_T F) ⦃v1 : Nat⦄ (hv1 : v1 < 4294967296) ⦃x : Nat × wq_F⦄ (h : dk_46_139b n r139 F v1 = some x), wq (wq_cf (d + 1)) (ev_un al_mX12_forget.2.2.2.2) none 139 [36893488147419103232, v1] [] wm_sh F 0 0 (wkN wm_T wm_sh x) := by
  intro F hT v1 hv1 x h
  unfold dk_46_139b at h
  refine wq_iload_n rfl rfl hv1 ?_
  refine wq_if_lt rfl rfl hv1 (fun h1 => ?_) (fun h1 => ?_)
  · replace h := od_pos h h1
    refine wq_aload_n rfl rfl rfl ?_
    refine wq_iconst rfl rfl ?_
    obtain ⟨F2, e3, h⟩ := od_upE h
    refine wmE_put rfl (by decide) (wq_I (wm_zlt (by decide))) e3 ?_
    have T4 : wm_T F2 := wd_T e3 (hT.uf (f := 77) (c := 0) (v := 0) rfl (show 0 < 4294967296 from (wm_zlt (by decide))))
    refine wq_aload_n rfl rfl rfl ?_
    refine wq_lconst rfl ?_
    obtain ⟨F5, e6, h⟩ := od_upE h
    refine wmE_put rfl (by decide) rfl e6 ?_
    have T7 : wm_T F5 := wd_T e6 (T4.uf (f := 78) (c := 10) (v := 18446744073709551616) rfl (show ev_isL 18446744073709551616 = true from rfl))
    refine wq_aload_n rfl rfl rfl ?_
    refine wq_iconst rfl rfl ?_
    obtain ⟨F8, e9, h⟩ := od_upE h
    refine wmE_put rfl (by decide) (wq_I (wm_zlt (by decide))) e9 ?_
    have T10 : wm_T F8 := wd_T e9 (T7.uf (f := 110) (c := 0) (v := 0) rfl (show 0 < 4294967296 from (wm_zlt (by decide))))
    refine wq_aload_n rfl rfl rfl ?_
    refine wq_iconst rfl rfl ?_
    obtain ⟨F11, e12, h⟩ := od_upE h
    refine wmE_put rfl (by decide) (wq_I (wm_zlt (by decide))) e12 ?_
    have T13 : wm_T F11 := wd_T e12 (T10.uf (f := 152) (c := 0) (v := 0) rfl (show 0 < 4294967296 from (wm_zlt (by decide))))
    refine wq_aload_n rfl rfl rfl ?_
    refine wq_iconst rfl rfl ?_
    obtain ⟨F14, e15, h⟩ := od_upE h
    refine wmE_put rfl (by decide) (wq_I (wm_zlt (by decide))) e15 ?_
    have T16 : wm_T F14 := wd_T e15 (T13.uf (f := 153) (c := 0) (v := 0) rfl (show 0 < 4294967296 from (wm_zlt (by decide))))
    refine wq_aload_n rfl rfl rfl ?_
    refine wq_iconst rfl rfl ?_
    obtain ⟨F17, e18, h⟩ := od_upE h
    refine wmE_put rfl (by decide) (wq_I (wm_zlt (by decide))) e18 ?_
    have T19 : wm_T F17 := wd_T e18 (T16.uf (f := 150) (c := 0) (v := 0) rfl (show 0 < 4294967296 from (wm_zlt (by decide))))
    refine wq_aload_n rfl rfl rfl ?_
    refine wq_lconst rfl ?_
    obtain ⟨F20, e21, h⟩ := od_upE h
    refine wmE_put rfl (by decide) rfl e21 ?_
    have T22 : wm_T F20 := wd_T e21 (T19.uf (f := 145) (c := 10) (v := 18446744073709551616) rfl (show ev_isL 18446744073709551616 = true from rfl))
    refine wq_aload_n rfl rfl rfl ?_
    refine wq_iconst rfl rfl ?_
    obtain ⟨F23, e24, h⟩ := od_upE h
    refine wmE_put rfl (by decide) (wq_I (wm_zlt (by decide))) e24 ?_
    have T25 : wm_T F23 := wd_T e24 (T22.uf (f := 143) (c := 0) (v := 0) rfl (show 0 < 4294967296 from (wm_zlt (by decide))))
    refine wq_aload_n rfl rfl rfl ?_
    refine wq_iconst rfl rfl ?_
    obtain ⟨F26, e27, h⟩ := od_upE h
    refine wmE_put rfl (by decide) (wq_I (wm_zlt (by decide))) e27 ?_
    have T28 : wm_T F26 := wd_T e27 (T25.uf (f := 148) (c := 0) (v := 0) rfl (show 0 < 4294967296 from (wm_zlt (by decide))))
    exact wq_ret rfl (wkON h T28)
  · replace h := od_neg h (Nat.not_le.mpr h1)
    refine wq_aload_n rfl rfl rfl ?_
    refine wm_getR (v := 36893488147419103289) rfl (by decide) (hT.r 95 56 rfl) ?_
    refine wq_aload_n rfl rfl rfl ?_
    refine wm_getI rfl (by decide) ?_
    refine wq_iload_n rfl rfl hv1 ?_
    obtain ⟨g29, h⟩ := od_gE h
    obtain ⟨F30, e31, h⟩ := od_upE h
    refine wd_iastore (q := 57) (n := 95000) rfl rfl (by decide) g29 (by decide) hv1 e31 ?_
    have T32 : wm_T F30 := wd_T e31 (hT.ua (k := 57) (kd := 1000) (n := 95000) (i := F 0 96) (v := v1) rfl (by decide) g29 (show v1 < 4294967296 from hv1))
    refine wq_aload_n rfl rfl rfl ?_
    refine wq_dup rfl rfl ?_
    refine wm_getI rfl (by decide) ?_
    refine wq_iconst rfl rfl ?_
    refine wq_iaddZ rfl (T32.i 96 rfl) (wm_zlt (by decide)) (z := ((F30 0 96) + 1) % 4294967296) rfl ?_
    obtain ⟨y33, e34, h⟩ := od_letE h
    refine wq_top e34.symm ?_
    have p35 : y33 < 4294967296 := wd_lt e34 (Nat.mod_lt _ (by decide))
    obtain ⟨F36, e37, h⟩ := od_upE h
    refine wmE_put rfl (by decide) (wq_I p35) e37 ?_
    have T38 : wm_T F36 := wd_T e37 (T32.uf (f := 96) (c := 0) (v := y33) rfl (show y33 < 4294967296 from p35))
    obtain ⟨y39, e40, h⟩ := od_letE h
    have p41 : y39 < 4294967296 := wd_lt e40 (Nat.mod_lt _ (by decide))
    refine wq_iincZ rfl rfl hv1 (Or.inr ⟨_, rfl, rfl⟩) rfl (z := y39) e40.symm (L' := [36893488147419103232, y39]) rfl ?_
    refine wq_goto rfl rfl ?_
    exact hr139 T38 p41 h
def dk_46_139 (n : Nat) : Nat → wq_F → Nat → Option (Nat × wq_F)
  | 0 => fun _ _ => none
  | g + 1 => dk_46_139b n (dk_46_139 n g)
theorem dk_46_139T {d n : Nat} : ∀ g : Nat, ∀ ⦃F : wq_F⦄ (hT : wm_T F) ⦃v1 : Nat⦄ (hv1 : v1 < 4294967296) ⦃x : Nat × wq_F⦄ (h : dk_46_139 n g F v1 = some x), wq (wq_cf (d + 1)) (ev_un al_mX12_forget.2.2.2.2) none 139 [36893488147419103232, v1] [] wm_sh F 0 0 (wkN wm_T wm_sh x)
  | 0 => by
    intro F hT v1 hv1 x h
    cases h
  | g + 1 => dk_46_139bT (dk_46_139T g)
def dk_46_95b (n : Nat) (r95 : wq_F → Nat → Option (Nat × wq_F)) (F : wq_F) (v1 : Nat) : Option (Nat × wq_F) :=
  if 2147483648 ≤ v1 then
    od_up F 0 89 0 fun F2 =>
    od_up F2 0 96 0 fun F5 =>
    dk_46_139 n n F5 94999
  else
    od_g (F 0 88 < 3001) <|
    od_up F 53 (F 0 88) v1 fun F9 =>
    od_up F9 0 88 (((F9 0 88) + 1) % 4294967296) fun F12 =>
    od_let ((v1 + 4294967295) % 4294967296) fun y15 =>
    r95 F12 y15
theorem dk_46_95bT {d n : Nat} {r95 : wq_F → Nat → Option (Nat × wq_F)} (hr95 : ∀ ⦃F : wq_F⦄ (hT : wm_T F) ⦃v1 : Nat⦄ (hv1 : v1 < 4294967296) ⦃x : Nat × wq_F⦄ (h : r95 F v1 = some x), wq (wq_cf (d + 1)) (ev_un al_mX12_forget.2.2.2.2) none 95 [36893488147419103232, v1] [] wm_sh F 0 0 (wkN wm_T wm_sh x)) : ∀ ⦃F : wq_F⦄ (hT : wm_T F) ⦃v1 : Nat⦄ (hv1 : v1 < 4294967296) ⦃x : Nat × wq_F⦄ (h : dk_46_95b n r95 F v1 = some x), wq (wq_cf (d + 1)) (ev_un al_mX12_forget.2.2.2.2) none 95 [36893488147419103232, v1] [] wm_sh F 0 0 (wkN wm_T wm_sh x) := by
  intro F hT v1 hv1 x h
  unfold dk_46_95b at h
  refine wq_iload_n rfl rfl hv1 ?_
  refine wq_if_lt rfl rfl hv1 (fun h1 => ?_) (fun h1 => ?_)
  · replace h := od_pos h h1
    refine wq_aload_n rfl rfl rfl ?_
    refine wq_iconst rfl rfl ?_
    obtain ⟨F2, e3, h⟩ := od_upE h
    refine wmE_put rfl (by decide) (wq_I (wm_zlt (by decide))) e3 ?_
    have T4 : wm_T F2 := wd_T e3 (hT.uf (f := 89) (c := 0) (v := 0) rfl (show 0 < 4294967296 from (wm_zlt (by decide))))
    refine wq_aload_n rfl rfl rfl ?_
    refine wq_iconst rfl rfl ?_
    obtain ⟨F5, e6, h⟩ := od_upE h
    refine wmE_put rfl (by decide) (wq_I (wm_zlt (by decide))) e6 ?_
    have T7 : wm_T F5 := wd_T e6 (T4.uf (f := 96) (c := 0) (v := 0) rfl (show 0 < 4294967296 from (wm_zlt (by decide))))
    refine wq_ldc_w rfl (by decide) ?_
    refine wq_istore_n rfl (by decide) (Nat.le_of_ble_eq_true rfl) (Or.inr ⟨_, rfl, rfl⟩) (L' := [36893488147419103232, 94999]) rfl ?_
    exact dk_46_139T n T7 (by decide) h
  · replace h := od_neg h (Nat.not_le.mpr h1)
    refine wq_aload_n rfl rfl rfl ?_
    refine wm_getR (v := 36893488147419103285) rfl (by decide) (hT.r 87 52 rfl) ?_
    refine wq_aload_n rfl rfl rfl ?_
    refine wm_getI rfl (by decide) ?_
    refine wq_iload_n rfl rfl hv1 ?_
    obtain ⟨g8, h⟩ := od_gE h
    obtain ⟨F9, e10, h⟩ := od_upE h
    refine wd_iastore (q := 53) (n := 3001) rfl rfl (by decide) g8 (by decide) hv1 e10 ?_
    have T11 : wm_T F9 := wd_T e10 (hT.ua (k := 53) (kd := 1000) (n := 3001) (i := F 0 88) (v := v1) rfl (by decide) g8 (show v1 < 4294967296 from hv1))
    refine wq_aload_n rfl rfl rfl ?_
    refine wq_dup rfl rfl ?_
    refine wm_getI rfl (by decide) ?_
    refine wq_iconst rfl rfl ?_
    refine wq_iaddZ rfl (T11.i 88 rfl) (wm_zlt (by decide)) (z := ((F9 0 88) + 1) % 4294967296) rfl ?_
    obtain ⟨F12, e13, h⟩ := od_upE h
    refine wmE_put rfl (by decide) (wq_I (Nat.mod_lt _ (by decide))) e13 ?_
    have T14 : wm_T F12 := wd_T e13 (T11.uf (f := 88) (c := 0) (v := ((F9 0 88) + 1) % 4294967296) rfl (show ((F9 0 88) + 1) % 4294967296 < 4294967296 from (Nat.mod_lt _ (by decide))))
    obtain ⟨y15, e16, h⟩ := od_letE h
    have p17 : y15 < 4294967296 := wd_lt e16 (Nat.mod_lt _ (by decide))
    refine wq_iincZ rfl rfl hv1 (Or.inr ⟨_, rfl, rfl⟩) rfl (z := y15) e16.symm (L' := [36893488147419103232, y15]) rfl ?_
    refine wq_goto rfl rfl ?_
    exact hr95 T14 p17 h
def dk_46_95 (n : Nat) : Nat → wq_F → Nat → Option (Nat × wq_F)
  | 0 => fun _ _ => none
  | g + 1 => dk_46_95b n (dk_46_95 n g)
theorem dk_46_95T {d n : Nat} : ∀ g : Nat, ∀ ⦃F : wq_F⦄ (hT : wm_T F) ⦃v1 : Nat⦄ (hv1 : v1 < 4294967296) ⦃x : Nat × wq_F⦄ (h : dk_46_95 n g F v1 = some x), wq (wq_cf (d + 1)) (ev_un al_mX12_forget.2.2.2.2) none 95 [36893488147419103232, v1] [] wm_sh F 0 0 (wkN wm_T wm_sh x)
  | 0 => by
    intro F hT v1 hv1 x h
    cases h
  | g + 1 => dk_46_95bT (dk_46_95T g)
def dk_46_66b (n : Nat) (r66 : wq_F → Nat → Option (Nat × wq_F)) (F : wq_F) (v1 : Nat) : Option (Nat × wq_F) :=
  if ev_s v1 < ev_s 4096 then
    od_g (v1 < 4096) <|
    od_up F 52 v1 4294967295 fun F6 =>
    od_let ((v1 + 1) % 4294967296) fun y9 =>
    r66 F6 y9
  else
    od_up F 0 88 0 fun F2 =>
    dk_46_95 n n F2 2999
theorem dk_46_66bT {d n : Nat} {r66 : wq_F → Nat → Option (Nat × wq_F)} (hr66 : ∀ ⦃F : wq_F⦄ (hT : wm_T F) ⦃v1 : Nat⦄ (hv1 : v1 < 4294967296) ⦃x : Nat × wq_F⦄ (h : r66 F v1 = some x), wq (wq_cf (d + 1)) (ev_un al_mX12_forget.2.2.2.2) none 66 [36893488147419103232, v1] [] wm_sh F 0 0 (wkN wm_T wm_sh x)) : ∀ ⦃F : wq_F⦄ (hT : wm_T F) ⦃v1 : Nat⦄ (hv1 : v1 < 4294967296) ⦃x : Nat × wq_F⦄ (h : dk_46_66b n r66 F v1 = some x), wq (wq_cf (d + 1)) (ev_un al_mX12_forget.2.2.2.2) none 66 [36893488147419103232, v1] [] wm_sh F 0 0 (wkN wm_T wm_sh x) := by
  intro F hT v1 hv1 x h
  unfold dk_46_66b at h
  refine wq_iload_n rfl rfl hv1 ?_
  refine wq_sipush rfl rfl ?_
  refine wq_ic_ge rfl rfl hv1 (by decide) (fun h1 => ?_) (fun h1 => ?_)
  · replace h := od_neg h (Nat.not_lt.mpr h1)
    refine wq_aload_n rfl rfl rfl ?_
    refine wq_iconst rfl rfl ?_
    obtain ⟨F2, e3, h⟩ := od_upE h
    refine wmE_put rfl (by decide) (wq_I (wm_zlt (by decide))) e3 ?_
    have T4 : wm_T F2 := wd_T e3 (hT.uf (f := 88) (c := 0) (v := 0) rfl (show 0 < 4294967296 from (wm_zlt (by decide))))
    refine wq_sipush rfl rfl ?_
    refine wq_istore_n rfl (by decide) (Nat.le_of_ble_eq_true rfl) (Or.inr ⟨_, rfl, rfl⟩) (L' := [36893488147419103232, 2999]) rfl ?_
    exact dk_46_95T n T4 (by decide) h
  · replace h := od_pos h h1
    refine wq_aload_n rfl rfl rfl ?_
    refine wm_getR (v := 36893488147419103284) rfl (by decide) (hT.r 86 51 rfl) ?_
    refine wq_iload_n rfl rfl hv1 ?_
    refine wq_iconst rfl rfl ?_
    obtain ⟨g5, h⟩ := od_gE h
    obtain ⟨F6, e7, h⟩ := od_upE h
    refine wd_iastore (q := 52) (n := 4096) rfl rfl (by decide) g5 (by decide) (by decide) e7 ?_
    have T8 : wm_T F6 := wd_T e7 (hT.ua (k := 52) (kd := 1000) (n := 4096) (i := v1) (v := 4294967295) rfl (by decide) g5 (show 4294967295 < 4294967296 from (by decide)))
    obtain ⟨y9, e10, h⟩ := od_letE h
    have p11 : y9 < 4294967296 := wd_lt e10 (Nat.mod_lt _ (by decide))
    refine wq_iincZ rfl rfl hv1 (Or.inr ⟨_, rfl, rfl⟩) rfl (z := y9) e10.symm (L' := [36893488147419103232, y9]) rfl ?_
    refine wq_goto rfl rfl ?_
    exact hr66 T8 p11 h
def dk_46_66 (n : Nat) : Nat → wq_F → Nat → Option (Nat × wq_F)
  | 0 => fun _ _ => none
  | g + 1 => dk_46_66b n (dk_46_66 n g)
theorem dk_46_66T {d n : Nat} : ∀ g : Nat, ∀ ⦃F : wq_F⦄ (hT : wm_T F) ⦃v1 : Nat⦄ (hv1 : v1 < 4294967296) ⦃x : Nat × wq_F⦄ (h : dk_46_66 n g F v1 = some x), wq (wq_cf (d + 1)) (ev_un al_mX12_forget.2.2.2.2) none 66 [36893488147419103232, v1] [] wm_sh F 0 0 (wkN wm_T wm_sh x)
  | 0 => by
    intro F hT v1 hv1 x h
    cases h
  | g + 1 => dk_46_66bT (dk_46_66T g)
def dk_46_14b (n : Nat) (r14 : wq_F → Nat → Option (Nat × wq_F)) (F : wq_F) (v1 : Nat) : Option (Nat × wq_F) :=
  if ev_s v1 < ev_s (F 0 15) then
    od_g (v1 < 3000) <|
    if (F 5 v1) = 2 then
      od_g (v1 < 3000) <|
      od_up F 5 v1 0 fun F19 =>
      od_let ((v1 + 1) % 4294967296) fun y22 =>
      r14 F19 y22
    else
      od_g (v1 < 3000) <|
      od_g (v1 < 3000) <|
      od_up F 5 v1 (F 5 v1) fun F12 =>
      od_let ((v1 + 1) % 4294967296) fun y15 =>
      r14 F12 y15
  else
    od_up F 0 17 0 fun F2 =>
    od_up F2 0 18 0 fun F5 =>
    dk_46_66 n n F5 0
theorem dk_46_14bT {d n : Nat} {r14 : wq_F → Nat → Option (Nat × wq_F)} (hr14 : ∀ ⦃F : wq_F⦄ (hT : wm_T F) ⦃v1 : Nat⦄ (hv1 : v1 < 4294967296) ⦃x : Nat × wq_F⦄ (h : r14 F v1 = some x), wq (wq_cf (d + 1)) (ev_un al_mX12_forget.2.2.2.2) none 14 [36893488147419103232, v1] [] wm_sh F 0 0 (wkN wm_T wm_sh x)) : ∀ ⦃F : wq_F⦄ (hT : wm_T F) ⦃v1 : Nat⦄ (hv1 : v1 < 4294967296) ⦃x : Nat × wq_F⦄ (h : dk_46_14b n r14 F v1 = some x), wq (wq_cf (d + 1)) (ev_un al_mX12_forget.2.2.2.2) none 14 [36893488147419103232, v1] [] wm_sh F 0 0 (wkN wm_T wm_sh x) := by
  intro F hT v1 hv1 x h
  unfold dk_46_14b at h
  refine wq_iload_n rfl rfl hv1 ?_
  refine wq_aload_n rfl rfl rfl ?_
  refine wm_getI rfl (by decide) ?_
  refine wq_ic_ge rfl rfl hv1 (hT.i 15 rfl) (fun h1 => ?_) (fun h1 => ?_)
  · replace h := od_neg h (Nat.not_lt.mpr h1)
    refine wq_aload_n rfl rfl rfl ?_
    refine wq_iconst rfl rfl ?_
    obtain ⟨F2, e3, h⟩ := od_upE h
    refine wmE_put rfl (by decide) (wq_I (wm_zlt (by decide))) e3 ?_
    have T4 : wm_T F2 := wd_T e3 (hT.uf (f := 17) (c := 0) (v := 0) rfl (show 0 < 4294967296 from (wm_zlt (by decide))))
    refine wq_aload_n rfl rfl rfl ?_
    refine wq_iconst rfl rfl ?_
    obtain ⟨F5, e6, h⟩ := od_upE h
    refine wmE_put rfl (by decide) (wq_I (wm_zlt (by decide))) e6 ?_
    have T7 : wm_T F5 := wd_T e6 (T4.uf (f := 18) (c := 0) (v := 0) rfl (show 0 < 4294967296 from (wm_zlt (by decide))))
    refine wq_iconst rfl rfl ?_
    refine wq_istore_n rfl (wm_zlt (by decide)) (Nat.le_of_ble_eq_true rfl) (Or.inr ⟨_, rfl, rfl⟩) (L' := [36893488147419103232, 0]) rfl ?_
    exact dk_46_66T n T7 (wm_zlt (by decide)) h
  · replace h := od_pos h h1
    refine wq_aload_n rfl rfl rfl ?_
    refine wm_getR (v := 36893488147419103237) rfl (by decide) (hT.r 11 4 rfl) ?_
    refine wq_iload_n rfl rfl hv1 ?_
    refine wq_aload_n rfl rfl rfl ?_
    refine wm_getR (v := 36893488147419103237) rfl (by decide) (hT.r 11 4 rfl) ?_
    refine wq_iload_n rfl rfl hv1 ?_
    obtain ⟨g8, h⟩ := od_gE h
    refine wq_iaload (q := 5) (n := 3000) rfl rfl (by decide) g8 (by decide) ?_
    refine wq_iconst rfl rfl ?_
    refine wq_ic_ne rfl rfl (hT.ai (k := 5) rfl g8) (by decide) (fun h9 => ?_) (fun h9 => ?_)
    · replace h := od_neg h h9
      refine wq_aload_n rfl rfl rfl ?_
      refine wm_getR (v := 36893488147419103237) rfl (by decide) (hT.r 11 4 rfl) ?_
      refine wq_iload_n rfl rfl hv1 ?_
      obtain ⟨g10, h⟩ := od_gE h
      refine wq_iaload (q := 5) (n := 3000) rfl rfl (by decide) g10 (by decide) ?_
      obtain ⟨g11, h⟩ := od_gE h
      obtain ⟨F12, e13, h⟩ := od_upE h
      refine wd_iastore (q := 5) (n := 3000) rfl rfl (by decide) g11 (by decide) (hT.ai (k := 5) rfl g10) e13 ?_
      have T14 : wm_T F12 := wd_T e13 (hT.ua (k := 5) (kd := 1000) (n := 3000) (i := v1) (v := F 5 v1) rfl (by decide) g11 (show F 5 v1 < 4294967296 from (hT.ai (k := 5) rfl g10)))
      obtain ⟨y15, e16, h⟩ := od_letE h
      have p17 : y15 < 4294967296 := wd_lt e16 (Nat.mod_lt _ (by decide))
      refine wq_iincZ rfl rfl hv1 (Or.inr ⟨_, rfl, rfl⟩) rfl (z := y15) e16.symm (L' := [36893488147419103232, y15]) rfl ?_
      refine wq_goto rfl rfl ?_
      exact hr14 T14 p17 h
    · replace h := od_pos h h9
      refine wq_iconst rfl rfl ?_
      refine wq_goto rfl rfl ?_
      obtain ⟨g18, h⟩ := od_gE h
      obtain ⟨F19, e20, h⟩ := od_upE h
      refine wd_iastore (q := 5) (n := 3000) rfl rfl (by decide) g18 (by decide) (wm_zlt (by decide)) e20 ?_
      have T21 : wm_T F19 := wd_T e20 (hT.ua (k := 5) (kd := 1000) (n := 3000) (i := v1) (v := 0) rfl (by decide) g18 (show 0 < 4294967296 from (wm_zlt (by decide))))
      obtain ⟨y22, e23, h⟩ := od_letE h
      have p24 : y22 < 4294967296 := wd_lt e23 (Nat.mod_lt _ (by decide))
      refine wq_iincZ rfl rfl hv1 (Or.inr ⟨_, rfl, rfl⟩) rfl (z := y22) e23.symm (L' := [36893488147419103232, y22]) rfl ?_
      refine wq_goto rfl rfl ?_
      exact hr14 T21 p24 h
def dk_46_14 (n : Nat) : Nat → wq_F → Nat → Option (Nat × wq_F)
  | 0 => fun _ _ => none
  | g + 1 => dk_46_14b n (dk_46_14 n g)
theorem dk_46_14T {d n : Nat} : ∀ g : Nat, ∀ ⦃F : wq_F⦄ (hT : wm_T F) ⦃v1 : Nat⦄ (hv1 : v1 < 4294967296) ⦃x : Nat × wq_F⦄ (h : dk_46_14 n g F v1 = some x), wq (wq_cf (d + 1)) (ev_un al_mX12_forget.2.2.2.2) none 14 [36893488147419103232, v1] [] wm_sh F 0 0 (wkN wm_T wm_sh x)
  | 0 => by
    intro F hT v1 hv1 x h
    cases h
  | g + 1 => dk_46_14bT (dk_46_14T g)
/-- X12_forget -/
def dk_46 (n : Nat) (F : wq_F) : Option (Nat × wq_F) :=
  (dk_25 n F (F 0 15) (F 0 16)).bind fun y1 =>
  dk_46_14 n n y1.2 0
theorem dkT_46 {d n : Nat} {F : wq_F} (hT : wm_T F) {x : Nat × wq_F} (h : dk_46 n F = some x) : mq (d + 1 + 1) 46 [36893488147419103232] wm_sh F (wkN wm_T wm_sh x) := by
  have e : ev_ent [36893488147419103232] = [36893488147419103232] := by
    rfl
  refine mq_of (maxL := 2) (rt := none) (code := (ev_un al_mX12_forget.2.2.2.2)) (L := [36893488147419103232, 73786976294838206464]) rfl (by rw [e]; exact Nat.le_of_ble_eq_true rfl) (by rw [e]; rfl) ?_
  unfold dk_46 at h
  refine wq_aload_n rfl rfl rfl ?_
  refine wq_aload_n rfl rfl rfl ?_
  refine wm_getI rfl (by decide) ?_
  refine wq_aload_n rfl rfl rfl ?_
  refine wm_getI rfl (by decide) ?_
  obtain ⟨y1, e2, h⟩ := od_bindE h
  refine wd_virtN (q := 0) (y := y1) (as := [36893488147419103232, F 0 15, F 0 16]) rfl rfl rfl (by decide) (Nat.le_of_ble_eq_true rfl) (Nat.le_of_ble_eq_true rfl) rfl (Nat.le_of_ble_eq_true rfl) rfl (dkT_25 hT (hT.i 15 rfl) (hT.i 16 rfl) e2) (fun T4 => ?_)
  refine wq_iconst rfl rfl ?_
  refine wq_istore_n rfl (wm_zlt (by decide)) (Nat.le_of_ble_eq_true rfl) (Or.inr ⟨_, rfl, rfl⟩) (L' := [36893488147419103232, 0]) rfl ?_
  exact dk_46_14T n T4 (wm_zlt (by decide)) h
/-- X12_keyHash -/
def dk_42 (F : wq_F) (a0 : Nat) (a1 : Nat) (a2 : Nat) : Option (Nat × wq_F) :=
  od_let (ev_oMulL (a2 - 18446744073709551616) (18446744073709551647 - 18446744073709551616)) fun y1 =>
  od_let (ev_oMulL ((ev_oI2l a1) - 18446744073709551616) (18446744073709551623 - 18446744073709551616)) fun y4 =>
  od_let (ev_oAddL (y1 - 18446744073709551616) (y4 - 18446744073709551616)) fun y7 =>
  od_let (ev_oMulL ((ev_oI2l a0) - 18446744073709551616) (18446744073709551747 - 18446744073709551616)) fun y10 =>
  od_let (ev_oAddL (y7 - 18446744073709551616) (y10 - 18446744073709551616)) fun y13 =>
  od_let (ev_oXorL (y13 - 18446744073709551616) ((ev_oUshL y13 17) - 18446744073709551616)) fun y16 =>
  od_let (ev_oXorL (y16 - 18446744073709551616) ((ev_oUshL y13 34) - 18446744073709551616)) fun y19 =>
  some (ev_oAnd (ev_oL2i y19) 4095, F)
theorem dkT_42 {d : Nat} {F : wq_F} (hT : wm_T F) {a0 : Nat} (ha0 : a0 < 4294967296) {a1 : Nat} (ha1 : a1 < 4294967296) {a2 : Nat} (ha2 : ev_isL a2 = true) {x : Nat × wq_F} (h : dk_42 F a0 a1 a2 = some x) : mq (d + 0 + 1) 42 [a0, a1, a2] wm_sh F (wkI wm_T wm_sh x) := by
  have e : ev_ent [a0, a1, a2] = [a0, a1, a2, 73786976294838206464] := by
    rw [wm_entI ha0, wm_entI ha1, wd_entL ha2]
    rfl
  refine mq_of (maxL := 6) (rt := (some .int)) (code := (ev_un al_mX12_keyHash.2.2.2.2)) (L := [a0, a1, a2, 73786976294838206464, 73786976294838206464, 73786976294838206464]) rfl (by rw [e]; exact Nat.le_of_ble_eq_true rfl) (by rw [e]; rfl) ?_
  unfold dk_42 at h
  refine wq_lload_n rfl rfl ha2 ?_
  refine wq_ldc2 rfl (by decide) ?_
  refine wq_lmul rfl ha2 rfl ?_
  obtain ⟨y1, e2, h⟩ := od_letE h
  refine wq_top e2.symm ?_
  have p3 : ev_isL y1 = true := wd_ge e2 (wq_L_lmul ha2 rfl)
  refine wq_iload_n rfl rfl ha1 ?_
  refine wq_i2l rfl ha1 ?_
  refine wq_ldc2 rfl (by decide) ?_
  refine wq_lmul rfl (wq_i2l_L ha1) rfl ?_
  obtain ⟨y4, e5, h⟩ := od_letE h
  refine wq_top e5.symm ?_
  have p6 : ev_isL y4 = true := wd_ge e5 (wq_L_lmul (wq_i2l_L ha1) rfl)
  refine wq_ladd rfl p3 p6 ?_
  obtain ⟨y7, e8, h⟩ := od_letE h
  refine wq_top e8.symm ?_
  have p9 : ev_isL y7 = true := wd_ge e8 (wq_L_ladd p3 p6)
  refine wq_iload_n rfl rfl ha0 ?_
  refine wq_i2l rfl ha0 ?_
  refine wq_ldc2 rfl (by decide) ?_
  refine wq_lmul rfl (wq_i2l_L ha0) rfl ?_
  obtain ⟨y10, e11, h⟩ := od_letE h
  refine wq_top e11.symm ?_
  have p12 : ev_isL y10 = true := wd_ge e11 (wq_L_lmul (wq_i2l_L ha0) rfl)
  refine wq_ladd rfl p9 p12 ?_
  obtain ⟨y13, e14, h⟩ := od_letE h
  refine wq_top e14.symm ?_
  have p15 : ev_isL y13 = true := wd_ge e14 (wq_L_ladd p9 p12)
  refine wq_lstore rfl p15 (Nat.le_of_ble_eq_true rfl) (Or.inr ⟨_, rfl, rfl⟩) (L' := [a0, a1, a2, 73786976294838206464, y13, 73786976294838206464]) rfl ?_
  refine wq_lload rfl rfl p15 ?_
  refine wq_lload rfl rfl p15 ?_
  refine wq_bipush rfl rfl ?_
  refine wq_lushr rfl p15 (by decide) ?_
  refine wq_lxor rfl p15 (wq_L_lushr p15 (by decide)) ?_
  obtain ⟨y16, e17, h⟩ := od_letE h
  refine wq_top e17.symm ?_
  have p18 : ev_isL y16 = true := wd_ge e17 (wq_L_lxor p15 (wq_L_lushr p15 (by decide)))
  refine wq_lload rfl rfl p15 ?_
  refine wq_bipush rfl rfl ?_
  refine wq_lushr rfl p15 (by decide) ?_
  refine wq_lxor rfl p18 (wq_L_lushr p15 (by decide)) ?_
  obtain ⟨y19, e20, h⟩ := od_letE h
  refine wq_top e20.symm ?_
  have p21 : ev_isL y19 = true := wd_ge e20 (wq_L_lxor p18 (wq_L_lushr p15 (by decide)))
  refine wq_l2i rfl p21 ?_
  refine wq_sipush rfl rfl ?_
  refine wq_iand rfl (Nat.mod_lt _ (by decide)) (by decide) ?_
  exact wq_iret rfl (wq_I_iand (Nat.mod_lt _ (by decide)) (by decide)) rfl (wkOI h hT (wq_I_iand (Nat.mod_lt _ (by decide)) (by decide)))
def dk_41_13b (n : Nat) (r13 : wq_F → Nat → Nat → Nat → Nat → Option (Nat × wq_F)) (F : wq_F) (v1 : Nat) (v2 : Nat) (v3 : Nat) (v5 : Nat) : Option (Nat × wq_F) :=
  if 2147483648 ≤ v5 then
    some (4294967295, F)
  else
    od_g (v5 < 3001) <|
    if (F 49 v5) = v1 then
      od_g (v5 < 3001) <|
      if (F 45 v5) = v2 then
        od_g (v5 < 3001) <|
        od_let (18446744073709551616 + F 46 v5) fun y9 =>
        od_let (ev_oCmpL (y9 - 18446744073709551616) (v3 - 18446744073709551616)) fun y12 =>
        if y12 = 0 then
          some (v5, F)
        else
          od_g (v5 < 3001) <|
          r13 F v1 v2 v3 (F 51 v5)
      else
        od_g (v5 < 3001) <|
        r13 F v1 v2 v3 (F 51 v5)
    else
      od_g (v5 < 3001) <|
      r13 F v1 v2 v3 (F 51 v5)
theorem dk_41_13bT {d n : Nat} {r13 : wq_F → Nat → Nat → Nat → Nat → Option (Nat × wq_F)} (hr13 : ∀ ⦃F : wq_F⦄ (hT : wm_T F) ⦃v1 : Nat⦄ (hv1 : v1 < 4294967296) ⦃v2 : Nat⦄ (hv2 : v2 < 4294967296) ⦃v3 : Nat⦄ (hv3 : ev_isL v3 = true) ⦃v5 : Nat⦄ (hv5 : v5 < 4294967296) ⦃x : Nat × wq_F⦄ (h : r13 F v1 v2 v3 v5 = some x), wq (wq_cf (d + 1)) (ev_un al_mX12_placeOf.2.2.2.2) (some .int) 13 [36893488147419103232, v1, v2, v3, 73786976294838206464, v5] [] wm_sh F 0 0 (wkI wm_T wm_sh x)) : ∀ ⦃F : wq_F⦄ (hT : wm_T F) ⦃v1 : Nat⦄ (hv1 : v1 < 4294967296) ⦃v2 : Nat⦄ (hv2 : v2 < 4294967296) ⦃v3 : Nat⦄ (hv3 : ev_isL v3 = true) ⦃v5 : Nat⦄ (hv5 : v5 < 4294967296) ⦃x : Nat × wq_F⦄ (h : dk_41_13b n r13 F v1 v2 v3 v5 = some x), wq (wq_cf (d + 1)) (ev_un al_mX12_placeOf.2.2.2.2) (some .int) 13 [36893488147419103232, v1, v2, v3, 73786976294838206464, v5] [] wm_sh F 0 0 (wkI wm_T wm_sh x) := by
  intro F hT v1 hv1 v2 hv2 v3 hv3 v5 hv5 x h
  unfold dk_41_13b at h
  refine wq_iload rfl rfl hv5 ?_
  refine wq_if_lt rfl rfl hv5 (fun h1 => ?_) (fun h1 => ?_)
  · replace h := od_pos h h1
    refine wq_iconst rfl rfl ?_
    exact wq_iret rfl (by decide) rfl (wkOI h hT (by decide))
  · replace h := od_neg h (Nat.not_le.mpr h1)
    refine wq_aload_n rfl rfl rfl ?_
    refine wm_getR (v := 36893488147419103281) rfl (by decide) (hT.r 83 48 rfl) ?_
    refine wq_iload rfl rfl hv5 ?_
    obtain ⟨g2, h⟩ := od_gE h
    refine wq_iaload (q := 49) (n := 3001) rfl rfl (by decide) g2 (by decide) ?_
    refine wq_iload_n rfl rfl hv1 ?_
    refine wq_ic_ne rfl rfl (hT.ai (k := 49) rfl g2) hv1 (fun h3 => ?_) (fun h3 => ?_)
    · replace h := od_neg h h3
      refine wq_aload_n rfl rfl rfl ?_
      refine wm_getR (v := 36893488147419103283) rfl (by decide) (hT.r 85 50 rfl) ?_
      refine wq_iload rfl rfl hv5 ?_
      obtain ⟨g4, h⟩ := od_gE h
      refine wq_iaload (q := 51) (n := 3001) rfl rfl (by decide) g4 (by decide) ?_
      refine wq_istore rfl (hT.ai (k := 51) rfl g4) (Nat.le_of_ble_eq_true rfl) (Or.inr ⟨_, rfl, rfl⟩) (L' := [36893488147419103232, v1, v2, v3, 73786976294838206464, F 51 v5]) rfl ?_
      refine wq_goto rfl rfl ?_
      exact hr13 hT hv1 hv2 hv3 (hT.ai (k := 51) rfl g4) h
    · replace h := od_pos h h3
      refine wq_aload_n rfl rfl rfl ?_
      refine wm_getR (v := 36893488147419103277) rfl (by decide) (hT.r 79 44 rfl) ?_
      refine wq_iload rfl rfl hv5 ?_
      obtain ⟨g5, h⟩ := od_gE h
      refine wq_iaload (q := 45) (n := 3001) rfl rfl (by decide) g5 (by decide) ?_
      refine wq_iload_n rfl rfl hv2 ?_
      refine wq_ic_ne rfl rfl (hT.ai (k := 45) rfl g5) hv2 (fun h6 => ?_) (fun h6 => ?_)
      · replace h := od_neg h h6
        refine wq_aload_n rfl rfl rfl ?_
        refine wm_getR (v := 36893488147419103283) rfl (by decide) (hT.r 85 50 rfl) ?_
        refine wq_iload rfl rfl hv5 ?_
        obtain ⟨g7, h⟩ := od_gE h
        refine wq_iaload (q := 51) (n := 3001) rfl rfl (by decide) g7 (by decide) ?_
        refine wq_istore rfl (hT.ai (k := 51) rfl g7) (Nat.le_of_ble_eq_true rfl) (Or.inr ⟨_, rfl, rfl⟩) (L' := [36893488147419103232, v1, v2, v3, 73786976294838206464, F 51 v5]) rfl ?_
        refine wq_goto rfl rfl ?_
        exact hr13 hT hv1 hv2 hv3 (hT.ai (k := 51) rfl g7) h
      · replace h := od_pos h h6
        refine wq_aload_n rfl rfl rfl ?_
        refine wm_getR (v := 36893488147419103278) rfl (by decide) (hT.r 80 45 rfl) ?_
        refine wq_iload rfl rfl hv5 ?_
        obtain ⟨g8, h⟩ := od_gE h
        refine wq_laload (q := 46) (n := 3001) rfl rfl (by decide) g8 (by decide) ?_
        obtain ⟨y9, e10, h⟩ := od_letE h
        refine wq_top e10.symm ?_
        have p11 : ev_isL y9 = true := wd_ge e10 (wm_al_L (hT.al (k := 46) rfl g8))
        refine wq_lload_n rfl rfl hv3 ?_
        refine wq_lcmp rfl p11 hv3 ?_
        obtain ⟨y12, e13, h⟩ := od_letE h
        refine wq_top e13.symm ?_
        have p14 : y12 < 4294967296 := wd_lt e13 (wq_oCmp_lt _ _)
        refine wq_if_ne rfl rfl p14 (fun h15 => ?_) (fun h15 => ?_)
        · replace h := od_neg h h15
          refine wq_aload_n rfl rfl rfl ?_
          refine wm_getR (v := 36893488147419103283) rfl (by decide) (hT.r 85 50 rfl) ?_
          refine wq_iload rfl rfl hv5 ?_
          obtain ⟨g16, h⟩ := od_gE h
          refine wq_iaload (q := 51) (n := 3001) rfl rfl (by decide) g16 (by decide) ?_
          refine wq_istore rfl (hT.ai (k := 51) rfl g16) (Nat.le_of_ble_eq_true rfl) (Or.inr ⟨_, rfl, rfl⟩) (L' := [36893488147419103232, v1, v2, v3, 73786976294838206464, F 51 v5]) rfl ?_
          refine wq_goto rfl rfl ?_
          exact hr13 hT hv1 hv2 hv3 (hT.ai (k := 51) rfl g16) h
        · replace h := od_pos h h15
          refine wq_iload rfl rfl hv5 ?_
          exact wq_iret rfl hv5 rfl (wkOI h hT hv5)
def dk_41_13 (n : Nat) : Nat → wq_F → Nat → Nat → Nat → Nat → Option (Nat × wq_F)
  | 0 => fun _ _ _ _ _ => none
  | g + 1 => dk_41_13b n (dk_41_13 n g)
theorem dk_41_13T {d n : Nat} : ∀ g : Nat, ∀ ⦃F : wq_F⦄ (hT : wm_T F) ⦃v1 : Nat⦄ (hv1 : v1 < 4294967296) ⦃v2 : Nat⦄ (hv2 : v2 < 4294967296) ⦃v3 : Nat⦄ (hv3 : ev_isL v3 = true) ⦃v5 : Nat⦄ (hv5 : v5 < 4294967296) ⦃x : Nat × wq_F⦄ (h : dk_41_13 n g F v1 v2 v3 v5 = some x), wq (wq_cf (d + 1)) (ev_un al_mX12_placeOf.2.2.2.2) (some .int) 13 [36893488147419103232, v1, v2, v3, 73786976294838206464, v5] [] wm_sh F 0 0 (wkI wm_T wm_sh x)
  | 0 => by
    intro F hT v1 hv1 v2 hv2 v3 hv3 v5 hv5 x h
    cases h
  | g + 1 => dk_41_13bT (dk_41_13T g)
/-- X12_placeOf -/
def dk_41 (n : Nat) (F : wq_F) (a0 : Nat) (a1 : Nat) (a2 : Nat) : Option (Nat × wq_F) :=
  (dk_42 F a0 a1 a2).bind fun y1 =>
  od_g (y1.1 < 4096) <|
  dk_41_13 n n y1.2 a0 a1 a2 (y1.2 52 y1.1)
theorem dkT_41 {d n : Nat} {F : wq_F} (hT : wm_T F) {a0 : Nat} (ha0 : a0 < 4294967296) {a1 : Nat} (ha1 : a1 < 4294967296) {a2 : Nat} (ha2 : ev_isL a2 = true) {x : Nat × wq_F} (h : dk_41 n F a0 a1 a2 = some x) : mq (d + 1 + 1) 41 [36893488147419103232, a0, a1, a2] wm_sh F (wkI wm_T wm_sh x) := by
  have e : ev_ent [36893488147419103232, a0, a1, a2] = [36893488147419103232, a0, a1, a2, 73786976294838206464] := by
    show 36893488147419103232 :: ev_ent [a0, a1, a2] = _
    rw [wm_entI ha0, wm_entI ha1, wd_entL ha2]
    rfl
  refine mq_of (maxL := 6) (rt := (some .int)) (code := (ev_un al_mX12_placeOf.2.2.2.2)) (L := [36893488147419103232, a0, a1, a2, 73786976294838206464, 73786976294838206464]) rfl (by rw [e]; exact Nat.le_of_ble_eq_true rfl) (by rw [e]; rfl) ?_
  unfold dk_41 at h
  refine wq_aload_n rfl rfl rfl ?_
  refine wm_getR (v := 36893488147419103284) rfl (by decide) (hT.r 86 51 rfl) ?_
  refine wq_iload_n rfl rfl ha0 ?_
  refine wq_iload_n rfl rfl ha1 ?_
  refine wq_lload_n rfl rfl ha2 ?_
  obtain ⟨y1, e2, h⟩ := od_bindE h
  refine wd_statI (y := y1) (as := [a0, a1, a2]) rfl (by decide) (Nat.le_of_ble_eq_true rfl) rfl (Nat.le_of_ble_eq_true rfl) rfl (dkT_42 hT ha0 ha1 ha2 e2) (fun p3 T4 => ?_)
  obtain ⟨g5, h⟩ := od_gE h
  refine wq_iaload (q := 52) (n := 4096) rfl rfl (by decide) g5 (by decide) ?_
  refine wq_istore rfl (T4.ai (k := 52) rfl g5) (Nat.le_of_ble_eq_true rfl) (Or.inr ⟨_, rfl, rfl⟩) (L' := [36893488147419103232, a0, a1, a2, 73786976294838206464, y1.2 52 y1.1]) rfl ?_
  exact dk_41_13T n T4 ha0 ha1 ha2 (T4.ai (k := 52) rfl g5) h
