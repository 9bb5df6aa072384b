/-! ===== 74d: the reference: methods as functions on memories (by wip/whole2/law73.py, dc.py): 33 X12_readBlock, 225 X12_endScope, 237 X12_constant, 248 X12_table, 238 X12_operand, 236 X12_readE, 234 X12_leftOf, 235 X12_strength, 239 X12_readOps, 242 X12_unary, 240 X12_eventOf, 241 X12_binary, 243 X12_chain, 244 X12_beginsGiven, 246 X12_given, 245 X12_suffix, 213 X12_needSign, 273 X12_closeParen, 274 X12_closeBracket, 275 X12_chainValue, 276 X12_called, 247 X12_row ===== -/
/-- X12_readBlock -/
def dk_33 (n : Nat) (F : wq_F) : Option (Nat × wq_F) :=
  (dk_34 F 17).bind fun y1 =>
  if y1.1 = 0 then
    (dk_35 y1.2).bind fun y6 =>
    if y6.1 = 0 then
      some (1, y6.2)
    else
      (dk_31 y6.2 0 0 0 0).bind fun y11 =>
      (dk_216 y11.2).bind fun y15 =>
      if y15.1 = 0 then
        some (0, y15.2)
      else
        (dk_31 y15.2 1 0 0 0).bind fun y20 =>
        (dk_226 n y20.2).bind fun y24 =>
        some (y24.1, y24.2)
  else
    (dk_215 y1.2).bind fun y28 =>
    (dk_30 y28.2 0 0 0 0).bind fun y32 =>
    (dk_30 y32.2 14 0 0 0).bind fun y36 =>
    (dk_212 y36.2).bind fun y40 =>
    if y40.1 = 0 then
      some (0, y40.2)
    else
      (dk_31 y40.2 37 y28.1 0 0).bind fun y45 =>
      (dk_217 y45.2).bind fun y49 =>
      if y49.1 = 0 then
        some (1, y49.2)
      else
        (dk_31 y49.2 14 0 0 0).bind fun y54 =>
        (dk_31 y54.2 3 0 0 0).bind fun y58 =>
        some (1, y58.2)
theorem dkT_33 {d n : Nat} {F : wq_F} (hT : wm_T F) {x : Nat × wq_F} (h : dk_33 n F = some x) : mq (d + 5 + 1) 33 [36893488147419103232] wm_sh F (wkZ wm_T wm_sh x) := by
  have e : ev_ent [36893488147419103232] = [36893488147419103232] := by
    rfl
  refine mq_of (maxL := 3) (rt := (some .boolean)) (code := (ev_un al_mX12_readBlock.2.2.2.2)) (L := [36893488147419103232, 73786976294838206464, 73786976294838206464]) rfl (by rw [e]; exact Nat.le_of_ble_eq_true rfl) (by rw [e]; rfl) ?_
  unfold dk_33 at h
  refine wq_aload_n rfl rfl rfl ?_
  refine wq_bipush rfl rfl ?_
  obtain ⟨y1, e2, h⟩ := od_bindE h
  refine wd_virtZ (q := 0) (y := y1) (as := [36893488147419103232, 17]) rfl rfl rfl (by decide) (Nat.le_of_ble_eq_true rfl) (Nat.le_of_ble_eq_true rfl) rfl (Nat.le_of_ble_eq_true rfl) rfl (dkT_34 hT (by decide) e2) (fun p3 T4 => ?_)
  refine wq_if_eq rfl rfl (wm_zlt p3) (fun h5 => ?_) (fun h5 => ?_)
  · replace h := od_pos h h5
    refine wq_aload_n rfl rfl rfl ?_
    obtain ⟨y6, e7, h⟩ := od_bindE h
    refine wd_virtZ (q := 0) (y := y6) (as := [36893488147419103232]) rfl rfl rfl (by decide) (Nat.le_of_ble_eq_true rfl) (Nat.le_of_ble_eq_true rfl) rfl (Nat.le_of_ble_eq_true rfl) rfl (dkT_35 T4 e7) (fun p8 T9 => ?_)
    refine wq_if_ne rfl rfl (wm_zlt p8) (fun h10 => ?_) (fun h10 => ?_)
    · replace h := od_neg h h10
      refine wq_aload_n rfl rfl rfl ?_
      refine wq_iconst rfl rfl ?_
      refine wq_iconst rfl rfl ?_
      refine wq_iconst rfl rfl ?_
      refine wq_iconst rfl rfl ?_
      obtain ⟨y11, e12, h⟩ := od_bindE h
      refine wd_virtN (q := 0) (y := y11) (as := [36893488147419103232, 0, 0, 0, 0]) rfl rfl rfl (by decide) (Nat.le_of_ble_eq_true rfl) (Nat.le_of_ble_eq_true rfl) rfl (Nat.le_of_ble_eq_true rfl) rfl (dkT_31 T9 (wm_zlt (by decide)) (wm_zlt (by decide)) (wm_zlt (by decide)) (wm_zlt (by decide)) e12) (fun T14 => ?_)
      refine wq_aload_n rfl rfl rfl ?_
      obtain ⟨y15, e16, h⟩ := od_bindE h
      refine wd_virtZ (q := 0) (y := y15) (as := [36893488147419103232]) rfl rfl rfl (by decide) (Nat.le_of_ble_eq_true rfl) (Nat.le_of_ble_eq_true rfl) rfl (Nat.le_of_ble_eq_true rfl) rfl (dkT_216 T14 e16) (fun p17 T18 => ?_)
      refine wq_if_ne rfl rfl (wm_zlt p17) (fun h19 => ?_) (fun h19 => ?_)
      · replace h := od_neg h h19
        refine wq_aload_n rfl rfl rfl ?_
        refine wq_iconst rfl rfl ?_
        refine wq_iconst rfl rfl ?_
        refine wq_iconst rfl rfl ?_
        refine wq_iconst rfl rfl ?_
        obtain ⟨y20, e21, h⟩ := od_bindE h
        refine wd_virtN (q := 0) (y := y20) (as := [36893488147419103232, 1, 0, 0, 0]) rfl rfl rfl (by decide) (Nat.le_of_ble_eq_true rfl) (Nat.le_of_ble_eq_true rfl) rfl (Nat.le_of_ble_eq_true rfl) rfl (dkT_31 T18 (wm_zlt (by decide)) (wm_zlt (by decide)) (wm_zlt (by decide)) (wm_zlt (by decide)) e21) (fun T23 => ?_)
        refine wq_aload_n rfl rfl rfl ?_
        obtain ⟨y24, e25, h⟩ := od_bindE h
        refine wd_virtZ (q := 0) (y := y24) (as := [36893488147419103232]) rfl rfl rfl (by decide) (Nat.le_of_ble_eq_true rfl) (Nat.le_of_ble_eq_true rfl) rfl (Nat.le_of_ble_eq_true rfl) rfl (dkT_226 T23 e25) (fun p26 T27 => ?_)
        exact wq_iret rfl (wm_zlt p26) (Nat.blt_eq.mpr p26) (wkOZ h T27 p26)
      · replace h := od_pos h h19
        refine wq_iconst rfl rfl ?_
        exact wq_iret rfl (wm_zlt (by decide)) (Nat.blt_eq.mpr (by decide)) (wkOZ h T18 (by decide))
    · replace h := od_pos h h10
      refine wq_iconst rfl rfl ?_
      exact wq_iret rfl (wm_zlt (by decide)) (Nat.blt_eq.mpr (by decide)) (wkOZ h T9 (by decide))
  · replace h := od_neg h h5
    refine wq_aload_n rfl rfl rfl ?_
    obtain ⟨y28, e29, h⟩ := od_bindE h
    refine wd_virtI (q := 0) (y := y28) (as := [36893488147419103232]) rfl rfl rfl (by decide) (Nat.le_of_ble_eq_true rfl) (Nat.le_of_ble_eq_true rfl) rfl (Nat.le_of_ble_eq_true rfl) rfl (dkT_215 T4 e29) (fun p30 T31 => ?_)
    refine wq_istore_n rfl p30 (Nat.le_of_ble_eq_true rfl) (Or.inr ⟨_, rfl, rfl⟩) (L' := [36893488147419103232, y28.1, 73786976294838206464]) rfl ?_
    refine wq_aload_n rfl rfl rfl ?_
    refine wq_iconst rfl rfl ?_
    refine wq_iconst rfl rfl ?_
    refine wq_iconst rfl rfl ?_
    refine wq_iconst rfl rfl ?_
    obtain ⟨y32, e33, h⟩ := od_bindE h
    refine wd_virtI (q := 0) (y := y32) (as := [36893488147419103232, 0, 0, 0, 0]) rfl rfl rfl (by decide) (Nat.le_of_ble_eq_true rfl) (Nat.le_of_ble_eq_true rfl) rfl (Nat.le_of_ble_eq_true rfl) rfl (dkT_30 T31 (wm_zlt (by decide)) (wm_zlt (by decide)) (wm_zlt (by decide)) (wm_zlt (by decide)) e33) (fun p34 T35 => ?_)
    refine wq_istore_n rfl p34 (Nat.le_of_ble_eq_true rfl) (Or.inr ⟨_, rfl, (wq_notL p30)⟩) (L' := [36893488147419103232, y28.1, y32.1]) rfl ?_
    refine wq_aload_n rfl rfl rfl ?_
    refine wq_bipush rfl rfl ?_
    refine wq_iconst rfl rfl ?_
    refine wq_iconst rfl rfl ?_
    refine wq_iconst rfl rfl ?_
    obtain ⟨y36, e37, h⟩ := od_bindE h
    refine wd_virtI (q := 0) (y := y36) (as := [36893488147419103232, 14, 0, 0, 0]) rfl rfl rfl (by decide) (Nat.le_of_ble_eq_true rfl) (Nat.le_of_ble_eq_true rfl) rfl (Nat.le_of_ble_eq_true rfl) rfl (dkT_30 T35 (by decide) (wm_zlt (by decide)) (wm_zlt (by decide)) (wm_zlt (by decide)) e37) (fun p38 T39 => ?_)
    refine wq_istore_n rfl p38 (Nat.le_of_ble_eq_true rfl) (Or.inr ⟨_, rfl, (wq_notL p30)⟩) (L' := [36893488147419103232, y28.1, y36.1]) rfl ?_
    refine wq_aload_n rfl rfl rfl ?_
    obtain ⟨y40, e41, h⟩ := od_bindE h
    refine wd_virtZ (q := 0) (y := y40) (as := [36893488147419103232]) rfl rfl rfl (by decide) (Nat.le_of_ble_eq_true rfl) (Nat.le_of_ble_eq_true rfl) rfl (Nat.le_of_ble_eq_true rfl) rfl (dkT_212 T39 e41) (fun p42 T43 => ?_)
    refine wq_if_ne rfl rfl (wm_zlt p42) (fun h44 => ?_) (fun h44 => ?_)
    · replace h := od_neg h h44
      refine wq_aload_n rfl rfl rfl ?_
      refine wq_bipush rfl rfl ?_
      refine wq_iload_n rfl rfl p30 ?_
      refine wq_iconst rfl rfl ?_
      refine wq_iconst rfl rfl ?_
      obtain ⟨y45, e46, h⟩ := od_bindE h
      refine wd_virtN (q := 0) (y := y45) (as := [36893488147419103232, 37, y28.1, 0, 0]) rfl rfl rfl (by decide) (Nat.le_of_ble_eq_true rfl) (Nat.le_of_ble_eq_true rfl) rfl (Nat.le_of_ble_eq_true rfl) rfl (dkT_31 T43 (by decide) p30 (wm_zlt (by decide)) (wm_zlt (by decide)) e46) (fun T48 => ?_)
      refine wq_aload_n rfl rfl rfl ?_
      obtain ⟨y49, e50, h⟩ := od_bindE h
      refine wd_virtZ (q := 0) (y := y49) (as := [36893488147419103232]) rfl rfl rfl (by decide) (Nat.le_of_ble_eq_true rfl) (Nat.le_of_ble_eq_true rfl) rfl (Nat.le_of_ble_eq_true rfl) rfl (dkT_217 T48 e50) (fun p51 T52 => ?_)
      refine wq_if_eq rfl rfl (wm_zlt p51) (fun h53 => ?_) (fun h53 => ?_)
      · replace h := od_pos h h53
        refine wq_iconst rfl rfl ?_
        exact wq_iret rfl (wm_zlt (by decide)) (Nat.blt_eq.mpr (by decide)) (wkOZ h T52 (by decide))
      · replace h := od_neg h h53
        refine wq_aload_n rfl rfl rfl ?_
        refine wq_bipush rfl rfl ?_
        refine wq_iconst rfl rfl ?_
        refine wq_iconst rfl rfl ?_
        refine wq_iconst rfl rfl ?_
        obtain ⟨y54, e55, h⟩ := od_bindE h
        refine wd_virtN (q := 0) (y := y54) (as := [36893488147419103232, 14, 0, 0, 0]) rfl rfl rfl (by decide) (Nat.le_of_ble_eq_true rfl) (Nat.le_of_ble_eq_true rfl) rfl (Nat.le_of_ble_eq_true rfl) rfl (dkT_31 T52 (by decide) (wm_zlt (by decide)) (wm_zlt (by decide)) (wm_zlt (by decide)) e55) (fun T57 => ?_)
        refine wq_aload_n rfl rfl rfl ?_
        refine wq_iconst rfl rfl ?_
        refine wq_iconst rfl rfl ?_
        refine wq_iconst rfl rfl ?_
        refine wq_iconst rfl rfl ?_
        obtain ⟨y58, e59, h⟩ := od_bindE h
        refine wd_virtN (q := 0) (y := y58) (as := [36893488147419103232, 3, 0, 0, 0]) rfl rfl rfl (by decide) (Nat.le_of_ble_eq_true rfl) (Nat.le_of_ble_eq_true rfl) rfl (Nat.le_of_ble_eq_true rfl) rfl (dkT_31 T57 (by decide) (wm_zlt (by decide)) (wm_zlt (by decide)) (wm_zlt (by decide)) e59) (fun T61 => ?_)
        refine wq_iconst rfl rfl ?_
        exact wq_iret rfl (wm_zlt (by decide)) (Nat.blt_eq.mpr (by decide)) (wkOZ h T61 (by decide))
    · replace h := od_pos h h44
      refine wq_iconst rfl rfl ?_
      exact wq_iret rfl (wm_zlt (by decide)) (Nat.blt_eq.mpr (by decide)) (wkOZ h T43 (by decide))
/-- X12_endScope -/
def dk_225 (F : wq_F) (a0 : Nat) : Option (Nat × wq_F) :=
  if ev_s a0 < ev_s (F 0 50) then
    od_g (a0 < 1600) <|
    (dk_30 F 20 (F 30 a0) 0 0).bind fun y3 =>
    od_up y3.2 0 50 a0 fun F7 =>
    some (0, F7)
  else
    some (0, F)
theorem dkT_225 {d : Nat} {F : wq_F} (hT : wm_T F) {a0 : Nat} (ha0 : a0 < 4294967296) {x : Nat × wq_F} (h : dk_225 F a0 = some x) : mq (d + 1 + 1) 225 [36893488147419103232, a0] wm_sh F (wkN wm_T wm_sh x) := by
  have e : ev_ent [36893488147419103232, a0] = [36893488147419103232, a0] := by
    show 36893488147419103232 :: ev_ent [a0] = _
    rw [wm_entI ha0]
    rfl
  refine mq_of (maxL := 3) (rt := none) (code := (ev_un al_mX12_endScope.2.2.2.2)) (L := [36893488147419103232, a0, 73786976294838206464]) rfl (by rw [e]; exact Nat.le_of_ble_eq_true rfl) (by rw [e]; rfl) ?_
  unfold dk_225 at h
  refine wq_aload_n rfl rfl rfl ?_
  refine wm_getI rfl (by decide) ?_
  refine wq_iload_n rfl rfl ha0 ?_
  refine wq_ic_le rfl rfl (hT.i 50 rfl) ha0 (fun h1 => ?_) (fun h1 => ?_)
  · replace h := od_neg h (Nat.not_lt.mpr h1)
    exact wq_ret rfl (wkON h hT)
  · replace h := od_pos h h1
    refine wq_aload_n rfl rfl rfl ?_
    refine wq_bipush rfl rfl ?_
    refine wq_aload_n rfl rfl rfl ?_
    refine wm_getR (v := 36893488147419103262) rfl (by decide) (hT.r 49 29 rfl) ?_
    refine wq_iload_n rfl rfl ha0 ?_
    obtain ⟨g2, h⟩ := od_gE h
    refine wq_iaload (q := 30) (n := 1600) rfl rfl (by decide) g2 (by decide) ?_
    refine wq_iconst rfl rfl ?_
    refine wq_iconst rfl rfl ?_
    obtain ⟨y3, e4, h⟩ := od_bindE h
    refine wd_virtI (q := 0) (y := y3) (as := [36893488147419103232, 20, F 30 a0, 0, 0]) rfl rfl rfl (by decide) (Nat.le_of_ble_eq_true rfl) (Nat.le_of_ble_eq_true rfl) rfl (Nat.le_of_ble_eq_true rfl) rfl (dkT_30 hT (by decide) (hT.ai (k := 30) rfl g2) (wm_zlt (by decide)) (wm_zlt (by decide)) e4) (fun p5 T6 => ?_)
    refine wq_istore_n rfl p5 (Nat.le_of_ble_eq_true rfl) (Or.inr ⟨_, rfl, (wq_notL ha0)⟩) (L' := [36893488147419103232, a0, y3.1]) rfl ?_
    refine wq_aload_n rfl rfl rfl ?_
    refine wq_iload_n rfl rfl ha0 ?_
    obtain ⟨F7, e8, h⟩ := od_upE h
    refine wmE_put rfl (by decide) (wq_I ha0) e8 ?_
    have T9 : wm_T F7 := wd_T e8 (T6.uf (f := 50) (c := 0) (v := a0) rfl (show a0 < 4294967296 from ha0))
    exact wq_ret rfl (wkON h T9)
/-- X12_constant -/
def dk_237 (F : wq_F) (a0 : Nat) (a1 : Nat) : Option (Nat × wq_F) :=
  (dk_30 F a0 a1 0 0).bind fun y1 =>
  od_up y1.2 0 64 4294967295 fun F5 =>
  (dk_212 F5).bind fun y8 =>
  some (y8.1, y8.2)
theorem dkT_237 {d : Nat} {F : wq_F} (hT : wm_T F) {a0 : Nat} (ha0 : a0 < 4294967296) {a1 : Nat} (ha1 : a1 < 4294967296) {x : Nat × wq_F} (h : dk_237 F a0 a1 = some x) : mq (d + 2 + 1) 237 [36893488147419103232, a0, a1] wm_sh F (wkZ wm_T wm_sh x) := by
  have e : ev_ent [36893488147419103232, a0, a1] = [36893488147419103232, a0, a1] := by
    show 36893488147419103232 :: ev_ent [a0, a1] = _
    rw [wm_entI ha0, wm_entI ha1]
    rfl
  refine mq_of (maxL := 4) (rt := (some .boolean)) (code := (ev_un al_mX12_constant.2.2.2.2)) (L := [36893488147419103232, a0, a1, 73786976294838206464]) rfl (by rw [e]; exact Nat.le_of_ble_eq_true rfl) (by rw [e]; rfl) ?_
  unfold dk_237 at h
  refine wq_aload_n rfl rfl rfl ?_
  refine wq_iload_n rfl rfl ha0 ?_
  refine wq_iload_n rfl rfl ha1 ?_
  refine wq_iconst rfl rfl ?_
  refine wq_iconst rfl rfl ?_
  obtain ⟨y1, e2, h⟩ := od_bindE h
  refine wd_virtI (q := 0) (y := y1) (as := [36893488147419103232, a0, a1, 0, 0]) rfl rfl rfl (by decide) (Nat.le_of_ble_eq_true rfl) (Nat.le_of_ble_eq_true rfl) rfl (Nat.le_of_ble_eq_true rfl) rfl (dkT_30 hT ha0 ha1 (wm_zlt (by decide)) (wm_zlt (by decide)) e2) (fun p3 T4 => ?_)
  refine wq_istore_n rfl p3 (Nat.le_of_ble_eq_true rfl) (Or.inr ⟨_, rfl, (wq_notL ha1)⟩) (L' := [36893488147419103232, a0, a1, y1.1]) rfl ?_
  refine wq_aload_n rfl rfl rfl ?_
  refine wq_iconst rfl rfl ?_
  obtain ⟨F5, e6, h⟩ := od_upE h
  refine wmE_put rfl (by decide) (wq_I (by decide)) e6 ?_
  have T7 : wm_T F5 := wd_T e6 (T4.uf (f := 64) (c := 0) (v := 4294967295) rfl (show 4294967295 < 4294967296 from (by decide)))
  refine wq_aload_n rfl rfl rfl ?_
  obtain ⟨y8, e9, h⟩ := od_bindE h
  refine wd_virtZ (q := 0) (y := y8) (as := [36893488147419103232]) rfl rfl rfl (by decide) (Nat.le_of_ble_eq_true rfl) (Nat.le_of_ble_eq_true rfl) rfl (Nat.le_of_ble_eq_true rfl) rfl (dkT_212 T7 e9) (fun p10 T11 => ?_)
  exact wq_iret rfl (wm_zlt p10) (Nat.blt_eq.mpr p10) (wkOZ h T11 p10)
/-- X12_table -/
def dk_248 (F : wq_F) : Option (Nat × wq_F) :=
  (dk_30 F 26 0 0 0).bind fun y1 =>
  (dk_31 y1.2 15 1 0 0).bind fun y5 =>
  (dk_212 y5.2).bind fun y9 =>
  some (y9.1, y9.2)
theorem dkT_248 {d : Nat} {F : wq_F} (hT : wm_T F) {x : Nat × wq_F} (h : dk_248 F = some x) : mq (d + 2 + 1) 248 [36893488147419103232] wm_sh F (wkZ wm_T wm_sh x) := by
  have e : ev_ent [36893488147419103232] = [36893488147419103232] := by
    rfl
  refine mq_of (maxL := 2) (rt := (some .boolean)) (code := (ev_un al_mX12_table.2.2.2.2)) (L := [36893488147419103232, 73786976294838206464]) rfl (by rw [e]; exact Nat.le_of_ble_eq_true rfl) (by rw [e]; rfl) ?_
  unfold dk_248 at h
  refine wq_aload_n rfl rfl rfl ?_
  refine wq_bipush rfl rfl ?_
  refine wq_iconst rfl rfl ?_
  refine wq_iconst rfl rfl ?_
  refine wq_iconst rfl rfl ?_
  obtain ⟨y1, e2, h⟩ := od_bindE h
  refine wd_virtI (q := 0) (y := y1) (as := [36893488147419103232, 26, 0, 0, 0]) rfl rfl rfl (by decide) (Nat.le_of_ble_eq_true rfl) (Nat.le_of_ble_eq_true rfl) rfl (Nat.le_of_ble_eq_true rfl) rfl (dkT_30 hT (by decide) (wm_zlt (by decide)) (wm_zlt (by decide)) (wm_zlt (by decide)) e2) (fun p3 T4 => ?_)
  refine wq_istore_n rfl p3 (Nat.le_of_ble_eq_true rfl) (Or.inr ⟨_, rfl, rfl⟩) (L' := [36893488147419103232, y1.1]) rfl ?_
  refine wq_aload_n rfl rfl rfl ?_
  refine wq_bipush rfl rfl ?_
  refine wq_iconst rfl rfl ?_
  refine wq_iconst rfl rfl ?_
  refine wq_iconst rfl rfl ?_
  obtain ⟨y5, e6, h⟩ := od_bindE h
  refine wd_virtN (q := 0) (y := y5) (as := [36893488147419103232, 15, 1, 0, 0]) rfl rfl rfl (by decide) (Nat.le_of_ble_eq_true rfl) (Nat.le_of_ble_eq_true rfl) rfl (Nat.le_of_ble_eq_true rfl) rfl (dkT_31 T4 (by decide) (wm_zlt (by decide)) (wm_zlt (by decide)) (wm_zlt (by decide)) e6) (fun T8 => ?_)
  refine wq_aload_n rfl rfl rfl ?_
  obtain ⟨y9, e10, h⟩ := od_bindE h
  refine wd_virtZ (q := 0) (y := y9) (as := [36893488147419103232]) rfl rfl rfl (by decide) (Nat.le_of_ble_eq_true rfl) (Nat.le_of_ble_eq_true rfl) rfl (Nat.le_of_ble_eq_true rfl) rfl (dkT_212 T8 e10) (fun p11 T12 => ?_)
  exact wq_iret rfl (wm_zlt p11) (Nat.blt_eq.mpr p11) (wkOZ h T12 p11)
def dk_238_121 (F : wq_F) : Option (Nat × wq_F) :=
  (dk_34 F 19).bind fun y1 =>
  if y1.1 = 0 then
    (dk_237 y1.2 2 0).bind fun y6 =>
    some (y6.1, y6.2)
  else
    (dk_237 y1.2 2 1).bind fun y10 =>
    some (y10.1, y10.2)
theorem dk_238_121T {d : Nat} : ∀ ⦃F : wq_F⦄ (hT : wm_T F) ⦃x : Nat × wq_F⦄ (h : dk_238_121 F = some x), wq (wq_cf (d + 3)) (ev_un al_mX12_operand.2.2.2.2) (some .boolean) 121 [36893488147419103232, 73786976294838206464] [] wm_sh F 0 0 (wkZ wm_T wm_sh x) := by
  intro F hT x h
  unfold dk_238_121 at h
  refine wq_aload_n rfl rfl rfl ?_
  refine wq_iconst rfl rfl ?_
  refine wq_aload_n rfl rfl rfl ?_
  refine wq_bipush rfl rfl ?_
  obtain ⟨y1, e2, h⟩ := od_bindE h
  refine wd_virtZ (q := 0) (y := y1) (as := [36893488147419103232, 19]) rfl rfl rfl (by decide) (Nat.le_of_ble_eq_true rfl) (Nat.le_of_ble_eq_true rfl) rfl (Nat.le_of_ble_eq_true rfl) rfl (dkT_34 hT (by decide) e2) (fun p3 T4 => ?_)
  refine wq_if_eq rfl rfl (wm_zlt p3) (fun h5 => ?_) (fun h5 => ?_)
  · replace h := od_pos h h5
    refine wq_iconst rfl rfl ?_
    obtain ⟨y6, e7, h⟩ := od_bindE h
    refine wd_virtZ (q := 0) (y := y6) (as := [36893488147419103232, 2, 0]) rfl rfl rfl (by decide) (Nat.le_of_ble_eq_true rfl) (Nat.le_of_ble_eq_true rfl) rfl (Nat.le_of_ble_eq_true rfl) rfl (dkT_237 T4 (by decide) (wm_zlt (by decide)) e7) (fun p8 T9 => ?_)
    exact wq_iret rfl (wm_zlt p8) (Nat.blt_eq.mpr p8) (wkOZ h T9 p8)
  · replace h := od_neg h h5
    refine wq_iconst rfl rfl ?_
    refine wq_goto rfl rfl ?_
    obtain ⟨y10, e11, h⟩ := od_bindE h
    refine wd_virtZ (q := 0) (y := y10) (as := [36893488147419103232, 2, 1]) rfl rfl rfl (by decide) (Nat.le_of_ble_eq_true rfl) (Nat.le_of_ble_eq_true rfl) rfl (Nat.le_of_ble_eq_true rfl) rfl (dkT_237 T4 (by decide) (wm_zlt (by decide)) e11) (fun p12 T13 => ?_)
    exact wq_iret rfl (wm_zlt p12) (Nat.blt_eq.mpr p12) (wkOZ h T13 p12)
/-- X12_operand -/
def dk_238 (F : wq_F) : Option (Nat × wq_F) :=
  od_up F 0 64 4294967295 fun F1 =>
  od_g (F1 0 25 < 1502) <|
  if (F1 9 (F1 0 25)) = 2 then
    od_g (F1 0 25 < 1502) <|
    od_let (18446744073709551616 + F1 11 (F1 0 25)) fun y97 =>
    od_g (F1 0 40 < 1501) <|
    od_up F1 24 (F1 0 40) ((y97 - 18446744073709551616)) fun F101 =>
    od_let (((F101 0 40) + 1) % 4294967296) fun y104 =>
    od_up F101 0 40 y104 fun F107 =>
    od_let (((F107 0 40) + (4294967296 - 1)) % 4294967296) fun y110 =>
    (dk_237 F107 4 y110).bind fun y113 =>
    some (y113.1, y113.2)
  else
    od_g (F1 0 25 < 1502) <|
    if (F1 9 (F1 0 25)) = 3 then
      od_g (F1 0 25 < 1502) <|
      od_let (18446744073709551616 + F1 11 (F1 0 25)) fun y89 =>
      (dk_237 F1 5 (ev_oL2i y89)).bind fun y92 =>
      some (y92.1, y92.2)
    else
      (dk_34 F1 13).bind fun y8 =>
      if y8.1 = 0 then
        (dk_34 y8.2 19).bind fun y13 =>
        if y13.1 = 0 then
          (dk_34 y13.2 7).bind fun y18 =>
          if y18.1 = 0 then
            (dk_36 y18.2 301).bind fun y23 =>
            if y23.1 = 0 then
              (dk_34 y23.2 9).bind fun y28 =>
              if y28.1 = 0 then
                (dk_36 y28.2 123).bind fun y33 =>
                if y33.1 = 0 then
                  (dk_31 y33.2 11 0 0 0).bind fun y38 =>
                  (dk_31 y38.2 7 0 0 0).bind fun y42 =>
                  some (1, y42.2)
                else
                  (dk_248 y33.2).bind fun y46 =>
                  some (y46.1, y46.2)
              else
                (dk_31 y28.2 19 0 0 0).bind fun y50 =>
                (dk_212 y50.2).bind fun y54 =>
                some (y54.1, y54.2)
            else
              (dk_210 y23.2).bind fun y58 =>
              (dk_212 y58.2).bind fun y62 =>
              if y62.1 = 0 then
                some (0, y62.2)
              else
                (dk_218 y62.2).bind fun y67 =>
                od_g (y67.1 < 51) <|
                if (y67.2 16 y67.1) = 0 then
                  (dk_209 y67.2 4 y58.1).bind fun y80 =>
                  some (y80.1, y80.2)
                else
                  (dk_30 y67.2 30 1 0 0).bind fun y73 =>
                  od_up y73.2 0 64 y73.1 fun F77 =>
                  some (1, F77)
          else
            dk_238_121 y18.2
        else
          dk_238_121 y13.2
      else
        (dk_237 y8.2 1 0).bind fun y84 =>
        some (y84.1, y84.2)
theorem dkT_238 {d : Nat} {F : wq_F} (hT : wm_T F) {x : Nat × wq_F} (h : dk_238 F = some x) : mq (d + 3 + 1) 238 [36893488147419103232] wm_sh F (wkZ wm_T wm_sh x) := by
  have e : ev_ent [36893488147419103232] = [36893488147419103232] := by
    rfl
  refine mq_of (maxL := 2) (rt := (some .boolean)) (code := (ev_un al_mX12_operand.2.2.2.2)) (L := [36893488147419103232, 73786976294838206464]) rfl (by rw [e]; exact Nat.le_of_ble_eq_true rfl) (by rw [e]; rfl) ?_
  unfold dk_238 at h
  refine wq_aload_n rfl rfl rfl ?_
  refine wq_iconst rfl rfl ?_
  obtain ⟨F1, e2, h⟩ := od_upE h
  refine wmE_put rfl (by decide) (wq_I (by decide)) e2 ?_
  have T3 : wm_T F1 := wd_T e2 (hT.uf (f := 64) (c := 0) (v := 4294967295) rfl (show 4294967295 < 4294967296 from (by decide)))
  refine wq_aload_n rfl rfl rfl ?_
  refine wm_getR (v := 36893488147419103241) rfl (by decide) (T3.r 21 8 rfl) ?_
  refine wq_aload_n rfl rfl rfl ?_
  refine wm_getI rfl (by decide) ?_
  obtain ⟨g4, h⟩ := od_gE h
  refine wq_iaload (q := 9) (n := 1502) rfl rfl (by decide) g4 (by decide) ?_
  refine wq_iconst rfl rfl ?_
  refine wq_ic_ne rfl rfl (T3.ai (k := 9) rfl g4) (by decide) (fun h5 => ?_) (fun h5 => ?_)
  · replace h := od_neg h h5
    refine wq_aload_n rfl rfl rfl ?_
    refine wm_getR (v := 36893488147419103241) rfl (by decide) (T3.r 21 8 rfl) ?_
    refine wq_aload_n rfl rfl rfl ?_
    refine wm_getI rfl (by decide) ?_
    obtain ⟨g6, h⟩ := od_gE h
    refine wq_iaload (q := 9) (n := 1502) rfl rfl (by decide) g6 (by decide) ?_
    refine wq_iconst rfl rfl ?_
    refine wq_ic_ne rfl rfl (T3.ai (k := 9) rfl g6) (by decide) (fun h7 => ?_) (fun h7 => ?_)
    · replace h := od_neg h h7
      refine wq_aload_n rfl rfl rfl ?_
      refine wq_bipush rfl rfl ?_
      obtain ⟨y8, e9, h⟩ := od_bindE h
      refine wd_virtZ (q := 0) (y := y8) (as := [36893488147419103232, 13]) rfl rfl rfl (by decide) (Nat.le_of_ble_eq_true rfl) (Nat.le_of_ble_eq_true rfl) rfl (Nat.le_of_ble_eq_true rfl) rfl (dkT_34 T3 (by decide) e9) (fun p10 T11 => ?_)
      refine wq_if_eq rfl rfl (wm_zlt p10) (fun h12 => ?_) (fun h12 => ?_)
      · replace h := od_pos h h12
        refine wq_aload_n rfl rfl rfl ?_
        refine wq_bipush rfl rfl ?_
        obtain ⟨y13, e14, h⟩ := od_bindE h
        refine wd_virtZ (q := 0) (y := y13) (as := [36893488147419103232, 19]) rfl rfl rfl (by decide) (Nat.le_of_ble_eq_true rfl) (Nat.le_of_ble_eq_true rfl) rfl (Nat.le_of_ble_eq_true rfl) rfl (dkT_34 T11 (by decide) e14) (fun p15 T16 => ?_)
        refine wq_if_ne rfl rfl (wm_zlt p15) (fun h17 => ?_) (fun h17 => ?_)
        · replace h := od_neg h h17
          exact dk_238_121T T16 h
        · replace h := od_pos h h17
          refine wq_aload_n rfl rfl rfl ?_
          refine wq_bipush rfl rfl ?_
          obtain ⟨y18, e19, h⟩ := od_bindE h
          refine wd_virtZ (q := 0) (y := y18) (as := [36893488147419103232, 7]) rfl rfl rfl (by decide) (Nat.le_of_ble_eq_true rfl) (Nat.le_of_ble_eq_true rfl) rfl (Nat.le_of_ble_eq_true rfl) rfl (dkT_34 T16 (by decide) e19) (fun p20 T21 => ?_)
          refine wq_if_eq rfl rfl (wm_zlt p20) (fun h22 => ?_) (fun h22 => ?_)
          · replace h := od_pos h h22
            refine wq_aload_n rfl rfl rfl ?_
            refine wq_sipush rfl rfl ?_
            obtain ⟨y23, e24, h⟩ := od_bindE h
            refine wd_virtZ (q := 0) (y := y23) (as := [36893488147419103232, 301]) rfl rfl rfl (by decide) (Nat.le_of_ble_eq_true rfl) (Nat.le_of_ble_eq_true rfl) rfl (Nat.le_of_ble_eq_true rfl) rfl (dkT_36 T21 (by decide) e24) (fun p25 T26 => ?_)
            refine wq_if_eq rfl rfl (wm_zlt p25) (fun h27 => ?_) (fun h27 => ?_)
            · replace h := od_pos h h27
              refine wq_aload_n rfl rfl rfl ?_
              refine wq_bipush rfl rfl ?_
              obtain ⟨y28, e29, h⟩ := od_bindE h
              refine wd_virtZ (q := 0) (y := y28) (as := [36893488147419103232, 9]) rfl rfl rfl (by decide) (Nat.le_of_ble_eq_true rfl) (Nat.le_of_ble_eq_true rfl) rfl (Nat.le_of_ble_eq_true rfl) rfl (dkT_34 T26 (by decide) e29) (fun p30 T31 => ?_)
              refine wq_if_eq rfl rfl (wm_zlt p30) (fun h32 => ?_) (fun h32 => ?_)
              · replace h := od_pos h h32
                refine wq_aload_n rfl rfl rfl ?_
                refine wq_bipush rfl rfl ?_
                obtain ⟨y33, e34, h⟩ := od_bindE h
                refine wd_virtZ (q := 0) (y := y33) (as := [36893488147419103232, 123]) rfl rfl rfl (by decide) (Nat.le_of_ble_eq_true rfl) (Nat.le_of_ble_eq_true rfl) rfl (Nat.le_of_ble_eq_true rfl) rfl (dkT_36 T31 (by decide) e34) (fun p35 T36 => ?_)
                refine wq_if_eq rfl rfl (wm_zlt p35) (fun h37 => ?_) (fun h37 => ?_)
                · replace h := od_pos h h37
                  refine wq_aload_n rfl rfl rfl ?_
                  refine wq_bipush rfl rfl ?_
                  refine wq_iconst rfl rfl ?_
                  refine wq_iconst rfl rfl ?_
                  refine wq_iconst rfl rfl ?_
                  obtain ⟨y38, e39, h⟩ := od_bindE h
                  refine wd_virtN (q := 0) (y := y38) (as := [36893488147419103232, 11, 0, 0, 0]) rfl rfl rfl (by decide) (Nat.le_of_ble_eq_true rfl) (Nat.le_of_ble_eq_true rfl) rfl (Nat.le_of_ble_eq_true rfl) rfl (dkT_31 T36 (by decide) (wm_zlt (by decide)) (wm_zlt (by decide)) (wm_zlt (by decide)) e39) (fun T41 => ?_)
                  refine wq_aload_n rfl rfl rfl ?_
                  refine wq_bipush rfl rfl ?_
                  refine wq_iconst rfl rfl ?_
                  refine wq_iconst rfl rfl ?_
                  refine wq_iconst rfl rfl ?_
                  obtain ⟨y42, e43, h⟩ := od_bindE h
                  refine wd_virtN (q := 0) (y := y42) (as := [36893488147419103232, 7, 0, 0, 0]) rfl rfl rfl (by decide) (Nat.le_of_ble_eq_true rfl) (Nat.le_of_ble_eq_true rfl) rfl (Nat.le_of_ble_eq_true rfl) rfl (dkT_31 T41 (by decide) (wm_zlt (by decide)) (wm_zlt (by decide)) (wm_zlt (by decide)) e43) (fun T45 => ?_)
                  refine wq_iconst rfl rfl ?_
                  exact wq_iret rfl (wm_zlt (by decide)) (Nat.blt_eq.mpr (by decide)) (wkOZ h T45 (by decide))
                · replace h := od_neg h h37
                  refine wq_aload_n rfl rfl rfl ?_
                  obtain ⟨y46, e47, h⟩ := od_bindE h
                  refine wd_virtZ (q := 0) (y := y46) (as := [36893488147419103232]) rfl rfl rfl (by decide) (Nat.le_of_ble_eq_true rfl) (Nat.le_of_ble_eq_true rfl) rfl (Nat.le_of_ble_eq_true rfl) rfl (dkT_248 T36 e47) (fun p48 T49 => ?_)
                  exact wq_iret rfl (wm_zlt p48) (Nat.blt_eq.mpr p48) (wkOZ h T49 p48)
              · replace h := od_neg h h32
                refine wq_aload_n rfl rfl rfl ?_
                refine wq_bipush rfl rfl ?_
                refine wq_iconst rfl rfl ?_
                refine wq_iconst rfl rfl ?_
                refine wq_iconst rfl rfl ?_
                obtain ⟨y50, e51, h⟩ := od_bindE h
                refine wd_virtN (q := 0) (y := y50) (as := [36893488147419103232, 19, 0, 0, 0]) rfl rfl rfl (by decide) (Nat.le_of_ble_eq_true rfl) (Nat.le_of_ble_eq_true rfl) rfl (Nat.le_of_ble_eq_true rfl) rfl (dkT_31 T31 (by decide) (wm_zlt (by decide)) (wm_zlt (by decide)) (wm_zlt (by decide)) e51) (fun T53 => ?_)
                refine wq_aload_n rfl rfl rfl ?_
                obtain ⟨y54, e55, h⟩ := od_bindE h
                refine wd_virtZ (q := 0) (y := y54) (as := [36893488147419103232]) rfl rfl rfl (by decide) (Nat.le_of_ble_eq_true rfl) (Nat.le_of_ble_eq_true rfl) rfl (Nat.le_of_ble_eq_true rfl) rfl (dkT_212 T53 e55) (fun p56 T57 => ?_)
                exact wq_iret rfl (wm_zlt p56) (Nat.blt_eq.mpr p56) (wkOZ h T57 p56)
            · replace h := od_neg h h27
              refine wq_aload_n rfl rfl rfl ?_
              obtain ⟨y58, e59, h⟩ := od_bindE h
              refine wd_virtI (q := 0) (y := y58) (as := [36893488147419103232]) rfl rfl rfl (by decide) (Nat.le_of_ble_eq_true rfl) (Nat.le_of_ble_eq_true rfl) rfl (Nat.le_of_ble_eq_true rfl) rfl (dkT_210 T26 e59) (fun p60 T61 => ?_)
              refine wq_istore_n rfl p60 (Nat.le_of_ble_eq_true rfl) (Or.inr ⟨_, rfl, rfl⟩) (L' := [36893488147419103232, y58.1]) rfl ?_
              refine wq_aload_n rfl rfl rfl ?_
              obtain ⟨y62, e63, h⟩ := od_bindE h
              refine wd_virtZ (q := 0) (y := y62) (as := [36893488147419103232]) rfl rfl rfl (by decide) (Nat.le_of_ble_eq_true rfl) (Nat.le_of_ble_eq_true rfl) rfl (Nat.le_of_ble_eq_true rfl) rfl (dkT_212 T61 e63) (fun p64 T65 => ?_)
              refine wq_if_ne rfl rfl (wm_zlt p64) (fun h66 => ?_) (fun h66 => ?_)
              · replace h := od_neg h h66
                refine wq_aload_n rfl rfl rfl ?_
                refine wm_getR (v := 36893488147419103248) rfl (by decide) (T65.r 30 15 rfl) ?_
                refine wq_aload_n rfl rfl rfl ?_
                obtain ⟨y67, e68, h⟩ := od_bindE h
                refine wd_virtI (q := 0) (y := y67) (as := [36893488147419103232]) rfl rfl rfl (by decide) (Nat.le_of_ble_eq_true rfl) (Nat.le_of_ble_eq_true rfl) rfl (Nat.le_of_ble_eq_true rfl) rfl (dkT_218 T65 e68) (fun p69 T70 => ?_)
                obtain ⟨g71, h⟩ := od_gE h
                refine wq_zaload (q := 16) (n := 51) rfl rfl (by decide) g71 (by decide) ?_
                refine wq_if_ne rfl rfl (wm_zlt (T70.az (k := 16) rfl g71)) (fun h72 => ?_) (fun h72 => ?_)
                · replace h := od_neg h h72
                  refine wq_aload_n rfl rfl rfl ?_
                  refine wq_aload_n rfl rfl rfl ?_
                  refine wq_bipush rfl rfl ?_
                  refine wq_iconst rfl rfl ?_
                  refine wq_iconst rfl rfl ?_
                  refine wq_iconst rfl rfl ?_
                  obtain ⟨y73, e74, h⟩ := od_bindE h
                  refine wd_virtI (q := 0) (y := y73) (as := [36893488147419103232, 30, 1, 0, 0]) rfl rfl rfl (by decide) (Nat.le_of_ble_eq_true rfl) (Nat.le_of_ble_eq_true rfl) rfl (Nat.le_of_ble_eq_true rfl) rfl (dkT_30 T70 (by decide) (wm_zlt (by decide)) (wm_zlt (by decide)) (wm_zlt (by decide)) e74) (fun p75 T76 => ?_)
                  obtain ⟨F77, e78, h⟩ := od_upE h
                  refine wmE_put rfl (by decide) (wq_I p75) e78 ?_
                  have T79 : wm_T F77 := wd_T e78 (T76.uf (f := 64) (c := 0) (v := y73.1) rfl (show y73.1 < 4294967296 from p75))
                  refine wq_iconst rfl rfl ?_
                  exact wq_iret rfl (wm_zlt (by decide)) (Nat.blt_eq.mpr (by decide)) (wkOZ h T79 (by decide))
                · replace h := od_pos h h72
                  refine wq_aload_n rfl rfl rfl ?_
                  refine wq_iconst rfl rfl ?_
                  refine wq_iload_n rfl rfl p60 ?_
                  obtain ⟨y80, e81, h⟩ := od_bindE h
                  refine wd_virtZ (q := 0) (y := y80) (as := [36893488147419103232, 4, y58.1]) rfl rfl rfl (by decide) (Nat.le_of_ble_eq_true rfl) (Nat.le_of_ble_eq_true rfl) rfl (Nat.le_of_ble_eq_true rfl) rfl (dkT_209 T70 (by decide) p60 e81) (fun p82 T83 => ?_)
                  exact wq_iret rfl (wm_zlt p82) (Nat.blt_eq.mpr p82) (wkOZ h T83 p82)
              · replace h := od_pos h h66
                refine wq_iconst rfl rfl ?_
                exact wq_iret rfl (wm_zlt (by decide)) (Nat.blt_eq.mpr (by decide)) (wkOZ h T65 (by decide))
          · replace h := od_neg h h22
            exact dk_238_121T T21 h
      · replace h := od_neg h h12
        refine wq_aload_n rfl rfl rfl ?_
        refine wq_iconst rfl rfl ?_
        refine wq_iconst rfl rfl ?_
        obtain ⟨y84, e85, h⟩ := od_bindE h
        refine wd_virtZ (q := 0) (y := y84) (as := [36893488147419103232, 1, 0]) rfl rfl rfl (by decide) (Nat.le_of_ble_eq_true rfl) (Nat.le_of_ble_eq_true rfl) rfl (Nat.le_of_ble_eq_true rfl) rfl (dkT_237 T11 (wm_zlt (by decide)) (wm_zlt (by decide)) e85) (fun p86 T87 => ?_)
        exact wq_iret rfl (wm_zlt p86) (Nat.blt_eq.mpr p86) (wkOZ h T87 p86)
    · replace h := od_pos h h7
      refine wq_aload_n rfl rfl rfl ?_
      refine wq_iconst rfl rfl ?_
      refine wq_aload_n rfl rfl rfl ?_
      refine wm_getR (v := 36893488147419103243) rfl (by decide) (T3.r 23 10 rfl) ?_
      refine wq_aload_n rfl rfl rfl ?_
      refine wm_getI rfl (by decide) ?_
      obtain ⟨g88, h⟩ := od_gE h
      refine wq_laload (q := 11) (n := 1502) rfl rfl (by decide) g88 (by decide) ?_
      obtain ⟨y89, e90, h⟩ := od_letE h
      refine wq_top e90.symm ?_
      have p91 : ev_isL y89 = true := wd_ge e90 (wm_al_L (T3.al (k := 11) rfl g88))
      refine wq_l2i rfl p91 ?_
      obtain ⟨y92, e93, h⟩ := od_bindE h
      refine wd_virtZ (q := 0) (y := y92) (as := [36893488147419103232, 5, ev_oL2i y89]) rfl rfl rfl (by decide) (Nat.le_of_ble_eq_true rfl) (Nat.le_of_ble_eq_true rfl) rfl (Nat.le_of_ble_eq_true rfl) rfl (dkT_237 T3 (by decide) (Nat.mod_lt _ (by decide)) e93) (fun p94 T95 => ?_)
      exact wq_iret rfl (wm_zlt p94) (Nat.blt_eq.mpr p94) (wkOZ h T95 p94)
  · replace h := od_pos h h5
    refine wq_aload_n rfl rfl rfl ?_
    refine wm_getR (v := 36893488147419103256) rfl (by decide) (T3.r 39 23 rfl) ?_
    refine wq_aload_n rfl rfl rfl ?_
    refine wm_getI rfl (by decide) ?_
    refine wq_aload_n rfl rfl rfl ?_
    refine wm_getR (v := 36893488147419103243) rfl (by decide) (T3.r 23 10 rfl) ?_
    refine wq_aload_n rfl rfl rfl ?_
    refine wm_getI rfl (by decide) ?_
    obtain ⟨g96, h⟩ := od_gE h
    refine wq_laload (q := 11) (n := 1502) rfl rfl (by decide) g96 (by decide) ?_
    obtain ⟨y97, e98, h⟩ := od_letE h
    refine wq_top e98.symm ?_
    have p99 : ev_isL y97 = true := wd_ge e98 (wm_al_L (T3.al (k := 11) rfl g96))
    obtain ⟨g100, h⟩ := od_gE h
    obtain ⟨F101, e102, h⟩ := od_upE h
    refine wd_lastore (q := 24) (n := 1501) rfl rfl (by decide) g100 (by decide) p99 e102 ?_
    have T103 : wm_T F101 := wd_T e102 (T3.ua (k := 24) (kd := 1010) (n := 1501) (i := F1 0 40) (v := (y97 - 18446744073709551616)) rfl (by decide) g100 (wm_subL p99))
    refine wq_aload_n rfl rfl rfl ?_
    refine wq_dup rfl rfl ?_
    refine wm_getI rfl (by decide) ?_
    refine wq_iconst rfl rfl ?_
    refine wq_iaddZ rfl (T103.i 40 rfl) (wm_zlt (by decide)) (z := ((F101 0 40) + 1) % 4294967296) rfl ?_
    obtain ⟨y104, e105, h⟩ := od_letE h
    refine wq_top e105.symm ?_
    have p106 : y104 < 4294967296 := wd_lt e105 (Nat.mod_lt _ (by decide))
    obtain ⟨F107, e108, h⟩ := od_upE h
    refine wmE_put rfl (by decide) (wq_I p106) e108 ?_
    have T109 : wm_T F107 := wd_T e108 (T103.uf (f := 40) (c := 0) (v := y104) rfl (show y104 < 4294967296 from p106))
    refine wq_aload_n rfl rfl rfl ?_
    refine wq_iconst rfl rfl ?_
    refine wq_aload_n rfl rfl rfl ?_
    refine wm_getI rfl (by decide) ?_
    refine wq_iconst rfl rfl ?_
    refine wq_isubZ rfl (T109.i 40 rfl) (wm_zlt (by decide)) (z := ((F107 0 40) + (4294967296 - 1)) % 4294967296) rfl ?_
    obtain ⟨y110, e111, h⟩ := od_letE h
    refine wq_top e111.symm ?_
    have p112 : y110 < 4294967296 := wd_lt e111 (Nat.mod_lt _ (by decide))
    obtain ⟨y113, e114, h⟩ := od_bindE h
    refine wd_virtZ (q := 0) (y := y113) (as := [36893488147419103232, 4, y110]) rfl rfl rfl (by decide) (Nat.le_of_ble_eq_true rfl) (Nat.le_of_ble_eq_true rfl) rfl (Nat.le_of_ble_eq_true rfl) rfl (dkT_237 T109 (by decide) p112 e114) (fun p115 T116 => ?_)
    exact wq_iret rfl (wm_zlt p115) (Nat.blt_eq.mpr p115) (wkOZ h T116 p115)
def dk_236_101 (F : wq_F) (v2 : Nat) (s0 : Nat) : Option (Nat × wq_F) :=
  (dk_31 F 5 s0 v2 0).bind fun y1 =>
  (dk_31 y1.2 3 12 0 0).bind fun y5 =>
  (dk_212 y5.2).bind fun y9 =>
  some (y9.1, y9.2)
theorem dk_236_101T {d : Nat} : ∀ ⦃u1 : Nat⦄ ⦃F : wq_F⦄ (hT : wm_T F) ⦃v2 : Nat⦄ (hv2 : v2 < 4294967296) ⦃s0 : Nat⦄ (hs0 : s0 < 4294967296) (hu1 : ev_isL u1 = false) ⦃x : Nat × wq_F⦄ (h : dk_236_101 F v2 s0 = some x), wq (wq_cf (d + 4)) (ev_un al_mX12_readE.2.2.2.2) (some .boolean) 101 [36893488147419103232, u1, v2, 73786976294838206464] [s0] wm_sh F 0 0 (wkZ wm_T wm_sh x) := by
  intro u1 F hT v2 hv2 s0 hs0 hu1 x h
  unfold dk_236_101 at h
  refine wq_istore_n rfl hs0 (Nat.le_of_ble_eq_true rfl) (Or.inr ⟨_, rfl, (wq_notL hv2)⟩) (L' := [36893488147419103232, u1, v2, s0]) rfl ?_
  refine wq_aload_n rfl rfl rfl ?_
  refine wq_iconst rfl rfl ?_
  refine wq_iload_n rfl rfl hs0 ?_
  refine wq_iload_n rfl rfl hv2 ?_
  refine wq_iconst rfl rfl ?_
  obtain ⟨y1, e2, h⟩ := od_bindE h
  refine wd_virtN (q := 0) (y := y1) (as := [36893488147419103232, 5, s0, v2, 0]) rfl rfl rfl (by decide) (Nat.le_of_ble_eq_true rfl) (Nat.le_of_ble_eq_true rfl) rfl (Nat.le_of_ble_eq_true rfl) rfl (dkT_31 hT (by decide) hs0 hv2 (wm_zlt (by decide)) e2) (fun T4 => ?_)
  refine wq_aload_n rfl rfl rfl ?_
  refine wq_iconst rfl rfl ?_
  refine wq_bipush rfl rfl ?_
  refine wq_iconst rfl rfl ?_
  refine wq_iconst rfl rfl ?_
  obtain ⟨y5, e6, h⟩ := od_bindE h
  refine wd_virtN (q := 0) (y := y5) (as := [36893488147419103232, 3, 12, 0, 0]) rfl rfl rfl (by decide) (Nat.le_of_ble_eq_true rfl) (Nat.le_of_ble_eq_true rfl) rfl (Nat.le_of_ble_eq_true rfl) rfl (dkT_31 T4 (by decide) (by decide) (wm_zlt (by decide)) (wm_zlt (by decide)) e6) (fun T8 => ?_)
  refine wq_aload_n rfl rfl rfl ?_
  obtain ⟨y9, e10, h⟩ := od_bindE h
  refine wd_virtZ (q := 0) (y := y9) (as := [36893488147419103232]) rfl rfl rfl (by decide) (Nat.le_of_ble_eq_true rfl) (Nat.le_of_ble_eq_true rfl) rfl (Nat.le_of_ble_eq_true rfl) rfl (dkT_212 T8 e10) (fun p11 T12 => ?_)
  exact wq_iret rfl (wm_zlt p11) (Nat.blt_eq.mpr p11) (wkOZ h T12 p11)
def dk_236_73 (F : wq_F) : Option (Nat × wq_F) :=
  (dk_215 F).bind fun y1 =>
  (dk_34 y1.2 14).bind fun y5 =>
  if y5.1 = 0 then
    od_g (y5.2 0 25 < 1502) <|
    od_let (18446744073709551616 + y5.2 11 (y5.2 0 25)) fun y11 =>
    dk_236_101 y5.2 y1.1 (ev_oL2i y11)
  else
    dk_236_101 y5.2 y1.1 0
theorem dk_236_73T {d : Nat} : ∀ ⦃u1 : Nat⦄ ⦃F : wq_F⦄ (hT : wm_T F) (hu1 : ev_isL u1 = false) ⦃x : Nat × wq_F⦄ (h : dk_236_73 F = some x), wq (wq_cf (d + 4)) (ev_un al_mX12_readE.2.2.2.2) (some .boolean) 73 [36893488147419103232, u1, 73786976294838206464, 73786976294838206464] [] wm_sh F 0 0 (wkZ wm_T wm_sh x) := by
  intro u1 F hT hu1 x h
  unfold dk_236_73 at h
  refine wq_aload_n rfl rfl rfl ?_
  obtain ⟨y1, e2, h⟩ := od_bindE h
  refine wd_virtI (q := 0) (y := y1) (as := [36893488147419103232]) rfl rfl rfl (by decide) (Nat.le_of_ble_eq_true rfl) (Nat.le_of_ble_eq_true rfl) rfl (Nat.le_of_ble_eq_true rfl) rfl (dkT_215 hT e2) (fun p3 T4 => ?_)
  refine wq_istore_n rfl p3 (Nat.le_of_ble_eq_true rfl) (Or.inr ⟨_, rfl, hu1⟩) (L' := [36893488147419103232, u1, y1.1, 73786976294838206464]) rfl ?_
  refine wq_aload_n rfl rfl rfl ?_
  refine wq_bipush rfl rfl ?_
  obtain ⟨y5, e6, h⟩ := od_bindE h
  refine wd_virtZ (q := 0) (y := y5) (as := [36893488147419103232, 14]) rfl rfl rfl (by decide) (Nat.le_of_ble_eq_true rfl) (Nat.le_of_ble_eq_true rfl) rfl (Nat.le_of_ble_eq_true rfl) rfl (dkT_34 T4 (by decide) e6) (fun p7 T8 => ?_)
  refine wq_if_eq rfl rfl (wm_zlt p7) (fun h9 => ?_) (fun h9 => ?_)
  · replace h := od_pos h h9
    refine wq_aload_n rfl rfl rfl ?_
    refine wm_getR (v := 36893488147419103243) rfl (by decide) (T8.r 23 10 rfl) ?_
    refine wq_aload_n rfl rfl rfl ?_
    refine wm_getI rfl (by decide) ?_
    obtain ⟨g10, h⟩ := od_gE h
    refine wq_laload (q := 11) (n := 1502) rfl rfl (by decide) g10 (by decide) ?_
    obtain ⟨y11, e12, h⟩ := od_letE h
    refine wq_top e12.symm ?_
    have p13 : ev_isL y11 = true := wd_ge e12 (wm_al_L (T8.al (k := 11) rfl g10))
    refine wq_l2i rfl p13 ?_
    exact dk_236_101T T8 p3 (Nat.mod_lt _ (by decide)) hu1 h
  · replace h := od_neg h h9
    refine wq_iconst rfl rfl ?_
    refine wq_goto rfl rfl ?_
    exact dk_236_101T T8 p3 (wm_zlt (by decide)) hu1 h
/-- X12_readE -/
def dk_236 (F : wq_F) (a0 : Nat) : Option (Nat × wq_F) :=
  (dk_217 F).bind fun y1 =>
  if y1.1 = 0 then
    (dk_211 y1.2).bind fun y43 =>
    some (y43.1, y43.2)
  else
    (dk_216 y1.2).bind fun y6 =>
    if y6.1 = 0 then
      some (0, y6.2)
    else
      (dk_31 y6.2 1 0 0 0).bind fun y11 =>
      (dk_31 y11.2 4 a0 0 0).bind fun y15 =>
      (dk_34 y15.2 14).bind fun y19 =>
      if y19.1 = 0 then
        (dk_36 y19.2 35).bind fun y24 =>
        if y24.1 = 0 then
          (dk_36 y24.2 45).bind fun y29 =>
          if y29.1 = 0 then
            (dk_36 y29.2 126).bind fun y34 =>
            if y34.1 = 0 then
              (dk_238 y34.2).bind fun y39 =>
              some (y39.1, y39.2)
            else
              dk_236_73 y34.2
          else
            dk_236_73 y29.2
        else
          dk_236_73 y24.2
      else
        dk_236_73 y19.2
theorem dkT_236 {d : Nat} {F : wq_F} (hT : wm_T F) {a0 : Nat} (ha0 : a0 < 4294967296) {x : Nat × wq_F} (h : dk_236 F a0 = some x) : mq (d + 4 + 1) 236 [36893488147419103232, a0] wm_sh F (wkZ wm_T wm_sh x) := by
  have e : ev_ent [36893488147419103232, a0] = [36893488147419103232, a0] := by
    show 36893488147419103232 :: ev_ent [a0] = _
    rw [wm_entI ha0]
    rfl
  refine mq_of (maxL := 4) (rt := (some .boolean)) (code := (ev_un al_mX12_readE.2.2.2.2)) (L := [36893488147419103232, a0, 73786976294838206464, 73786976294838206464]) rfl (by rw [e]; exact Nat.le_of_ble_eq_true rfl) (by rw [e]; rfl) ?_
  unfold dk_236 at h
  refine wq_aload_n rfl rfl rfl ?_
  obtain ⟨y1, e2, h⟩ := od_bindE h
  refine wd_virtZ (q := 0) (y := y1) (as := [36893488147419103232]) rfl rfl rfl (by decide) (Nat.le_of_ble_eq_true rfl) (Nat.le_of_ble_eq_true rfl) rfl (Nat.le_of_ble_eq_true rfl) rfl (dkT_217 hT e2) (fun p3 T4 => ?_)
  refine wq_if_ne rfl rfl (wm_zlt p3) (fun h5 => ?_) (fun h5 => ?_)
  · replace h := od_neg h h5
    refine wq_aload_n rfl rfl rfl ?_
    obtain ⟨y6, e7, h⟩ := od_bindE h
    refine wd_virtZ (q := 0) (y := y6) (as := [36893488147419103232]) rfl rfl rfl (by decide) (Nat.le_of_ble_eq_true rfl) (Nat.le_of_ble_eq_true rfl) rfl (Nat.le_of_ble_eq_true rfl) rfl (dkT_216 T4 e7) (fun p8 T9 => ?_)
    refine wq_if_ne rfl rfl (wm_zlt p8) (fun h10 => ?_) (fun h10 => ?_)
    · replace h := od_neg h h10
      refine wq_aload_n rfl rfl rfl ?_
      refine wq_iconst rfl rfl ?_
      refine wq_iconst rfl rfl ?_
      refine wq_iconst rfl rfl ?_
      refine wq_iconst rfl rfl ?_
      obtain ⟨y11, e12, h⟩ := od_bindE h
      refine wd_virtN (q := 0) (y := y11) (as := [36893488147419103232, 1, 0, 0, 0]) rfl rfl rfl (by decide) (Nat.le_of_ble_eq_true rfl) (Nat.le_of_ble_eq_true rfl) rfl (Nat.le_of_ble_eq_true rfl) rfl (dkT_31 T9 (wm_zlt (by decide)) (wm_zlt (by decide)) (wm_zlt (by decide)) (wm_zlt (by decide)) e12) (fun T14 => ?_)
      refine wq_aload_n rfl rfl rfl ?_
      refine wq_iconst rfl rfl ?_
      refine wq_iload_n rfl rfl ha0 ?_
      refine wq_iconst rfl rfl ?_
      refine wq_iconst rfl rfl ?_
      obtain ⟨y15, e16, h⟩ := od_bindE h
      refine wd_virtN (q := 0) (y := y15) (as := [36893488147419103232, 4, a0, 0, 0]) rfl rfl rfl (by decide) (Nat.le_of_ble_eq_true rfl) (Nat.le_of_ble_eq_true rfl) rfl (Nat.le_of_ble_eq_true rfl) rfl (dkT_31 T14 (by decide) ha0 (wm_zlt (by decide)) (wm_zlt (by decide)) e16) (fun T18 => ?_)
      refine wq_aload_n rfl rfl rfl ?_
      refine wq_bipush rfl rfl ?_
      obtain ⟨y19, e20, h⟩ := od_bindE h
      refine wd_virtZ (q := 0) (y := y19) (as := [36893488147419103232, 14]) rfl rfl rfl (by decide) (Nat.le_of_ble_eq_true rfl) (Nat.le_of_ble_eq_true rfl) rfl (Nat.le_of_ble_eq_true rfl) rfl (dkT_34 T18 (by decide) e20) (fun p21 T22 => ?_)
      refine wq_if_ne rfl rfl (wm_zlt p21) (fun h23 => ?_) (fun h23 => ?_)
      · replace h := od_neg h h23
        exact dk_236_73T T22 (wq_notL ha0) h
      · replace h := od_pos h h23
        refine wq_aload_n rfl rfl rfl ?_
        refine wq_bipush rfl rfl ?_
        obtain ⟨y24, e25, h⟩ := od_bindE h
        refine wd_virtZ (q := 0) (y := y24) (as := [36893488147419103232, 35]) rfl rfl rfl (by decide) (Nat.le_of_ble_eq_true rfl) (Nat.le_of_ble_eq_true rfl) rfl (Nat.le_of_ble_eq_true rfl) rfl (dkT_36 T22 (by decide) e25) (fun p26 T27 => ?_)
        refine wq_if_ne rfl rfl (wm_zlt p26) (fun h28 => ?_) (fun h28 => ?_)
        · replace h := od_neg h h28
          exact dk_236_73T T27 (wq_notL ha0) h
        · replace h := od_pos h h28
          refine wq_aload_n rfl rfl rfl ?_
          refine wq_bipush rfl rfl ?_
          obtain ⟨y29, e30, h⟩ := od_bindE h
          refine wd_virtZ (q := 0) (y := y29) (as := [36893488147419103232, 45]) rfl rfl rfl (by decide) (Nat.le_of_ble_eq_true rfl) (Nat.le_of_ble_eq_true rfl) rfl (Nat.le_of_ble_eq_true rfl) rfl (dkT_36 T27 (by decide) e30) (fun p31 T32 => ?_)
          refine wq_if_ne rfl rfl (wm_zlt p31) (fun h33 => ?_) (fun h33 => ?_)
          · replace h := od_neg h h33
            exact dk_236_73T T32 (wq_notL ha0) h
          · replace h := od_pos h h33
            refine wq_aload_n rfl rfl rfl ?_
            refine wq_bipush rfl rfl ?_
            obtain ⟨y34, e35, h⟩ := od_bindE h
            refine wd_virtZ (q := 0) (y := y34) (as := [36893488147419103232, 126]) rfl rfl rfl (by decide) (Nat.le_of_ble_eq_true rfl) (Nat.le_of_ble_eq_true rfl) rfl (Nat.le_of_ble_eq_true rfl) rfl (dkT_36 T32 (by decide) e35) (fun p36 T37 => ?_)
            refine wq_if_eq rfl rfl (wm_zlt p36) (fun h38 => ?_) (fun h38 => ?_)
            · replace h := od_pos h h38
              refine wq_aload_n rfl rfl rfl ?_
              obtain ⟨y39, e40, h⟩ := od_bindE h
              refine wd_virtZ (q := 0) (y := y39) (as := [36893488147419103232]) rfl rfl rfl (by decide) (Nat.le_of_ble_eq_true rfl) (Nat.le_of_ble_eq_true rfl) rfl (Nat.le_of_ble_eq_true rfl) rfl (dkT_238 T37 e40) (fun p41 T42 => ?_)
              exact wq_iret rfl (wm_zlt p41) (Nat.blt_eq.mpr p41) (wkOZ h T42 p41)
            · replace h := od_neg h h38
              exact dk_236_73T T37 (wq_notL ha0) h
    · replace h := od_pos h h10
      refine wq_iconst rfl rfl ?_
      exact wq_iret rfl (wm_zlt (by decide)) (Nat.blt_eq.mpr (by decide)) (wkOZ h T9 (by decide))
  · replace h := od_pos h h5
    refine wq_aload_n rfl rfl rfl ?_
    obtain ⟨y43, e44, h⟩ := od_bindE h
    refine wd_virtZ (q := 0) (y := y43) (as := [36893488147419103232]) rfl rfl rfl (by decide) (Nat.le_of_ble_eq_true rfl) (Nat.le_of_ble_eq_true rfl) rfl (Nat.le_of_ble_eq_true rfl) rfl (dkT_211 T4 e44) (fun p45 T46 => ?_)
    exact wq_iret rfl (wm_zlt p45) (Nat.blt_eq.mpr p45) (wkOZ h T46 p45)
/-- X12_leftOf -/
def dk_234 (F : wq_F) (a0 : Nat) : Option (Nat × wq_F) :=
  if a0 = 37 then
    some (11, F)
  else if a0 = 38 then
    some (6, F)
  else if a0 = 42 then
    some (11, F)
  else if a0 = 43 then
    some (10, F)
  else if a0 = 45 then
    some (10, F)
  else if a0 = 60 then
    some (3, F)
  else if a0 = 62 then
    some (3, F)
  else if a0 = 124 then
    some (4, F)
  else if a0 = 126 then
    some (5, F)
  else if a0 = 300 then
    some (9, F)
  else if a0 = 302 then
    some (3, F)
  else if a0 = 303 then
    some (3, F)
  else if a0 = 304 then
    some (3, F)
  else if a0 = 305 then
    some (3, F)
  else if a0 = 306 then
    some (7, F)
  else if a0 = 307 then
    some (7, F)
  else if a0 = 308 then
    some (11, F)
  else 
  some (0, F)
theorem dkT_234 {d : Nat} {F : wq_F} (hT : wm_T F) {a0 : Nat} (ha0 : a0 < 4294967296) {x : Nat × wq_F} (h : dk_234 F a0 = some x) : mq (d + 0 + 1) 234 [a0] wm_sh F (wkI wm_T wm_sh x) := by
  have e : ev_ent [a0] = [a0] := by
    rw [wm_entI ha0]
    rfl
  refine mq_of (maxL := 1) (rt := (some .int)) (code := (ev_un al_mX12_leftOf.2.2.2.2)) (L := [a0]) rfl (by rw [e]; exact Nat.le_of_ble_eq_true rfl) (by rw [e]; rfl) ?_
  unfold dk_234 at h
  refine wq_iload_n rfl rfl ha0 ?_
  by_cases h1 : a0 = 37
  case pos =>
    replace h := od_pos h h1
    refine wq_top h1 ?_
    refine wq_lsw rfl (by decide) rfl (tgt := 166) rfl ?_
    refine wq_bipush rfl rfl ?_
    exact wq_iret rfl (by decide) rfl (wkOI h hT (by decide))
  replace h := od_neg h h1
  by_cases h2 : a0 = 38
  case pos =>
    replace h := od_pos h h2
    refine wq_top h2 ?_
    refine wq_lsw rfl (by decide) rfl (tgt := 154) rfl ?_
    refine wq_bipush rfl rfl ?_
    exact wq_iret rfl (by decide) rfl (wkOI h hT (by decide))
  replace h := od_neg h h2
  by_cases h3 : a0 = 42
  case pos =>
    replace h := od_pos h h3
    refine wq_top h3 ?_
    refine wq_lsw rfl (by decide) rfl (tgt := 166) rfl ?_
    refine wq_bipush rfl rfl ?_
    exact wq_iret rfl (by decide) rfl (wkOI h hT (by decide))
  replace h := od_neg h h3
  by_cases h4 : a0 = 43
  case pos =>
    replace h := od_pos h h4
    refine wq_top h4 ?_
    refine wq_lsw rfl (by decide) rfl (tgt := 163) rfl ?_
    refine wq_bipush rfl rfl ?_
    exact wq_iret rfl (by decide) rfl (wkOI h hT (by decide))
  replace h := od_neg h h4
  by_cases h5 : a0 = 45
  case pos =>
    replace h := od_pos h h5
    refine wq_top h5 ?_
    refine wq_lsw rfl (by decide) rfl (tgt := 163) rfl ?_
    refine wq_bipush rfl rfl ?_
    exact wq_iret rfl (by decide) rfl (wkOI h hT (by decide))
  replace h := od_neg h h5
  by_cases h6 : a0 = 60
  case pos =>
    replace h := od_pos h h6
    refine wq_top h6 ?_
    refine wq_lsw rfl (by decide) rfl (tgt := 148) rfl ?_
    refine wq_iconst rfl rfl ?_
    exact wq_iret rfl (by decide) rfl (wkOI h hT (by decide))
  replace h := od_neg h h6
  by_cases h7 : a0 = 62
  case pos =>
    replace h := od_pos h h7
    refine wq_top h7 ?_
    refine wq_lsw rfl (by decide) rfl (tgt := 148) rfl ?_
    refine wq_iconst rfl rfl ?_
    exact wq_iret rfl (by decide) rfl (wkOI h hT (by decide))
  replace h := od_neg h h7
  by_cases h8 : a0 = 124
  case pos =>
    replace h := od_pos h h8
    refine wq_top h8 ?_
    refine wq_lsw rfl (by decide) rfl (tgt := 150) rfl ?_
    refine wq_iconst rfl rfl ?_
    exact wq_iret rfl (by decide) rfl (wkOI h hT (by decide))
  replace h := od_neg h h8
  by_cases h9 : a0 = 126
  case pos =>
    replace h := od_pos h h9
    refine wq_top h9 ?_
    refine wq_lsw rfl (by decide) rfl (tgt := 152) rfl ?_
    refine wq_iconst rfl rfl ?_
    exact wq_iret rfl (by decide) rfl (wkOI h hT (by decide))
  replace h := od_neg h h9
  by_cases h10 : a0 = 300
  case pos =>
    replace h := od_pos h h10
    refine wq_top h10 ?_
    refine wq_lsw rfl (by decide) rfl (tgt := 160) rfl ?_
    refine wq_bipush rfl rfl ?_
    exact wq_iret rfl (by decide) rfl (wkOI h hT (by decide))
  replace h := od_neg h h10
  by_cases h11 : a0 = 302
  case pos =>
    replace h := od_pos h h11
    refine wq_top h11 ?_
    refine wq_lsw rfl (by decide) rfl (tgt := 148) rfl ?_
    refine wq_iconst rfl rfl ?_
    exact wq_iret rfl (by decide) rfl (wkOI h hT (by decide))
  replace h := od_neg h h11
  by_cases h12 : a0 = 303
  case pos =>
    replace h := od_pos h h12
    refine wq_top h12 ?_
    refine wq_lsw rfl (by decide) rfl (tgt := 148) rfl ?_
    refine wq_iconst rfl rfl ?_
    exact wq_iret rfl (by decide) rfl (wkOI h hT (by decide))
  replace h := od_neg h h12
  by_cases h13 : a0 = 304
  case pos =>
    replace h := od_pos h h13
    refine wq_top h13 ?_
    refine wq_lsw rfl (by decide) rfl (tgt := 148) rfl ?_
    refine wq_iconst rfl rfl ?_
    exact wq_iret rfl (by decide) rfl (wkOI h hT (by decide))
  replace h := od_neg h h13
  by_cases h14 : a0 = 305
  case pos =>
    replace h := od_pos h h14
    refine wq_top h14 ?_
    refine wq_lsw rfl (by decide) rfl (tgt := 148) rfl ?_
    refine wq_iconst rfl rfl ?_
    exact wq_iret rfl (by decide) rfl (wkOI h hT (by decide))
  replace h := od_neg h h14
  by_cases h15 : a0 = 306
  case pos =>
    replace h := od_pos h h15
    refine wq_top h15 ?_
    refine wq_lsw rfl (by decide) rfl (tgt := 157) rfl ?_
    refine wq_bipush rfl rfl ?_
    exact wq_iret rfl (by decide) rfl (wkOI h hT (by decide))
  replace h := od_neg h h15
  by_cases h16 : a0 = 307
  case pos =>
    replace h := od_pos h h16
    refine wq_top h16 ?_
    refine wq_lsw rfl (by decide) rfl (tgt := 157) rfl ?_
    refine wq_bipush rfl rfl ?_
    exact wq_iret rfl (by decide) rfl (wkOI h hT (by decide))
  replace h := od_neg h h16
  by_cases h17 : a0 = 308
  case pos =>
    replace h := od_pos h h17
    refine wq_top h17 ?_
    refine wq_lsw rfl (by decide) rfl (tgt := 166) rfl ?_
    refine wq_bipush rfl rfl ?_
    exact wq_iret rfl (by decide) rfl (wkOI h hT (by decide))
  replace h := od_neg h h17
  refine wq_lswD rfl ha0 rfl (List.forall_mem_cons.mpr ⟨wq_siNe (v := 37) ha0 (by decide) h1, (List.forall_mem_cons.mpr ⟨wq_siNe (v := 38) ha0 (by decide) h2, (List.forall_mem_cons.mpr ⟨wq_siNe (v := 42) ha0 (by decide) h3, (List.forall_mem_cons.mpr ⟨wq_siNe (v := 43) ha0 (by decide) h4, (List.forall_mem_cons.mpr ⟨wq_siNe (v := 45) ha0 (by decide) h5, (List.forall_mem_cons.mpr ⟨wq_siNe (v := 60) ha0 (by decide) h6, (List.forall_mem_cons.mpr ⟨wq_siNe (v := 62) ha0 (by decide) h7, (List.forall_mem_cons.mpr ⟨wq_siNe (v := 124) ha0 (by decide) h8, (List.forall_mem_cons.mpr ⟨wq_siNe (v := 126) ha0 (by decide) h9, (List.forall_mem_cons.mpr ⟨wq_siNe (v := 300) ha0 (by decide) h10, (List.forall_mem_cons.mpr ⟨wq_siNe (v := 302) ha0 (by decide) h11, (List.forall_mem_cons.mpr ⟨wq_siNe (v := 303) ha0 (by decide) h12, (List.forall_mem_cons.mpr ⟨wq_siNe (v := 304) ha0 (by decide) h13, (List.forall_mem_cons.mpr ⟨wq_siNe (v := 305) ha0 (by decide) h14, (List.forall_mem_cons.mpr ⟨wq_siNe (v := 306) ha0 (by decide) h15, (List.forall_mem_cons.mpr ⟨wq_siNe (v := 307) ha0 (by decide) h16, (List.forall_mem_cons.mpr ⟨wq_siNe (v := 308) ha0 (by decide) h17, (fun _ h => absurd h List.not_mem_nil)⟩)⟩)⟩)⟩)⟩)⟩)⟩)⟩)⟩)⟩)⟩)⟩)⟩)⟩)⟩)⟩)⟩) rfl (tgt := 169) rfl ?_
  refine wq_iconst rfl rfl ?_
  exact wq_iret rfl (wm_zlt (by decide)) rfl (wkOI h hT (wm_zlt (by decide)))
/-- X12_strength -/
def dk_235 (F : wq_F) : Option (Nat × wq_F) :=
  (dk_34 F 15).bind fun y1 =>
  if y1.1 = 0 then
    (dk_34 y1.2 1).bind fun y6 =>
    if y6.1 = 0 then
      od_g (y6.2 0 25 < 1502) <|
      if (y6.2 9 (y6.2 0 25)) = 5 then
        od_g (y6.2 0 25 < 1502) <|
        od_let (18446744073709551616 + y6.2 11 (y6.2 0 25)) fun y14 =>
        (dk_234 y6.2 (ev_oL2i y14)).bind fun y17 =>
        some (y17.1, y17.2)
      else
        some (0, y6.2)
    else
      some (2, y6.2)
  else
    some (1, y1.2)
theorem dkT_235 {d : Nat} {F : wq_F} (hT : wm_T F) {x : Nat × wq_F} (h : dk_235 F = some x) : mq (d + 1 + 1) 235 [36893488147419103232] wm_sh F (wkI wm_T wm_sh x) := by
  have e : ev_ent [36893488147419103232] = [36893488147419103232] := by
    rfl
  refine mq_of (maxL := 1) (rt := (some .int)) (code := (ev_un al_mX12_strength.2.2.2.2)) (L := [36893488147419103232]) rfl (by rw [e]; exact Nat.le_of_ble_eq_true rfl) (by rw [e]; rfl) ?_
  unfold dk_235 at h
  refine wq_aload_n rfl rfl rfl ?_
  refine wq_bipush rfl rfl ?_
  obtain ⟨y1, e2, h⟩ := od_bindE h
  refine wd_virtZ (q := 0) (y := y1) (as := [36893488147419103232, 15]) rfl rfl rfl (by decide) (Nat.le_of_ble_eq_true rfl) (Nat.le_of_ble_eq_true rfl) rfl (Nat.le_of_ble_eq_true rfl) rfl (dkT_34 hT (by decide) e2) (fun p3 T4 => ?_)
  refine wq_if_eq rfl rfl (wm_zlt p3) (fun h5 => ?_) (fun h5 => ?_)
  · replace h := od_pos h h5
    refine wq_aload_n rfl rfl rfl ?_
    refine wq_iconst rfl rfl ?_
    obtain ⟨y6, e7, h⟩ := od_bindE h
    refine wd_virtZ (q := 0) (y := y6) (as := [36893488147419103232, 1]) rfl rfl rfl (by decide) (Nat.le_of_ble_eq_true rfl) (Nat.le_of_ble_eq_true rfl) rfl (Nat.le_of_ble_eq_true rfl) rfl (dkT_34 T4 (wm_zlt (by decide)) e7) (fun p8 T9 => ?_)
    refine wq_if_eq rfl rfl (wm_zlt p8) (fun h10 => ?_) (fun h10 => ?_)
    · replace h := od_pos h h10
      refine wq_aload_n rfl rfl rfl ?_
      refine wm_getR (v := 36893488147419103241) rfl (by decide) (T9.r 21 8 rfl) ?_
      refine wq_aload_n rfl rfl rfl ?_
      refine wm_getI rfl (by decide) ?_
      obtain ⟨g11, h⟩ := od_gE h
      refine wq_iaload (q := 9) (n := 1502) rfl rfl (by decide) g11 (by decide) ?_
      refine wq_iconst rfl rfl ?_
      refine wq_ic_ne rfl rfl (T9.ai (k := 9) rfl g11) (by decide) (fun h12 => ?_) (fun h12 => ?_)
      · replace h := od_neg h h12
        refine wq_iconst rfl rfl ?_
        exact wq_iret rfl (wm_zlt (by decide)) rfl (wkOI h T9 (wm_zlt (by decide)))
      · replace h := od_pos h h12
        refine wq_aload_n rfl rfl rfl ?_
        refine wm_getR (v := 36893488147419103243) rfl (by decide) (T9.r 23 10 rfl) ?_
        refine wq_aload_n rfl rfl rfl ?_
        refine wm_getI rfl (by decide) ?_
        obtain ⟨g13, h⟩ := od_gE h
        refine wq_laload (q := 11) (n := 1502) rfl rfl (by decide) g13 (by decide) ?_
        obtain ⟨y14, e15, h⟩ := od_letE h
        refine wq_top e15.symm ?_
        have p16 : ev_isL y14 = true := wd_ge e15 (wm_al_L (T9.al (k := 11) rfl g13))
        refine wq_l2i rfl p16 ?_
        obtain ⟨y17, e18, h⟩ := od_bindE h
        refine wd_statI (y := y17) (as := [ev_oL2i y14]) rfl (by decide) (Nat.le_of_ble_eq_true rfl) rfl (Nat.le_of_ble_eq_true rfl) rfl (dkT_234 T9 (Nat.mod_lt _ (by decide)) e18) (fun p19 T20 => ?_)
        refine wq_goto rfl rfl ?_
        exact wq_iret rfl p19 rfl (wkOI h T20 p19)
    · replace h := od_neg h h10
      refine wq_iconst rfl rfl ?_
      exact wq_iret rfl (by decide) rfl (wkOI h T9 (by decide))
  · replace h := od_neg h h5
    refine wq_iconst rfl rfl ?_
    exact wq_iret rfl (wm_zlt (by decide)) rfl (wkOI h T4 (wm_zlt (by decide)))
def dk_239_76 (F : wq_F) (v1 : Nat) (v2 : Nat) (v3 : Nat) (v4 : Nat) (v5 : Nat) : Option (Nat × wq_F) :=
  (dk_31 F 4 v1 0 0).bind fun y1 =>
  (dk_31 y1.2 6 v4 v3 v5).bind fun y5 =>
  if v2 = 9 then
    (dk_31 y5.2 3 8 0 0).bind fun y18 =>
    (dk_212 y18.2).bind fun y22 =>
    some (y22.1, y22.2)
  else
    (dk_31 y5.2 3 v2 0 0).bind fun y10 =>
    (dk_212 y10.2).bind fun y14 =>
    some (y14.1, y14.2)
theorem dk_239_76T {d : Nat} : ∀ ⦃F : wq_F⦄ (hT : wm_T F) ⦃v1 : Nat⦄ (hv1 : v1 < 4294967296) ⦃v2 : Nat⦄ (hv2 : v2 < 4294967296) ⦃v3 : Nat⦄ (hv3 : v3 < 4294967296) ⦃v4 : Nat⦄ (hv4 : v4 < 4294967296) ⦃v5 : Nat⦄ (hv5 : v5 < 4294967296) ⦃x : Nat × wq_F⦄ (h : dk_239_76 F v1 v2 v3 v4 v5 = some x), wq (wq_cf (d + 2)) (ev_un al_mX12_readOps.2.2.2.2) (some .boolean) 76 [36893488147419103232, v1, v2, v3, v4, v5] [] wm_sh F 0 0 (wkZ wm_T wm_sh x) := by
  intro F hT v1 hv1 v2 hv2 v3 hv3 v4 hv4 v5 hv5 x h
  unfold dk_239_76 at h
  refine wq_aload_n rfl rfl rfl ?_
  refine wq_iconst rfl rfl ?_
  refine wq_iload_n rfl rfl hv1 ?_
  refine wq_iconst rfl rfl ?_
  refine wq_iconst rfl rfl ?_
  obtain ⟨y1, e2, h⟩ := od_bindE h
  refine wd_virtN (q := 0) (y := y1) (as := [36893488147419103232, 4, v1, 0, 0]) rfl rfl rfl (by decide) (Nat.le_of_ble_eq_true rfl) (Nat.le_of_ble_eq_true rfl) rfl (Nat.le_of_ble_eq_true rfl) rfl (dkT_31 hT (by decide) hv1 (wm_zlt (by decide)) (wm_zlt (by decide)) e2) (fun T4 => ?_)
  refine wq_aload_n rfl rfl rfl ?_
  refine wq_bipush rfl rfl ?_
  refine wq_iload rfl rfl hv4 ?_
  refine wq_iload_n rfl rfl hv3 ?_
  refine wq_iload rfl rfl hv5 ?_
  obtain ⟨y5, e6, h⟩ := od_bindE h
  refine wd_virtN (q := 0) (y := y5) (as := [36893488147419103232, 6, v4, v3, v5]) rfl rfl rfl (by decide) (Nat.le_of_ble_eq_true rfl) (Nat.le_of_ble_eq_true rfl) rfl (Nat.le_of_ble_eq_true rfl) rfl (dkT_31 T4 (by decide) hv4 hv3 hv5 e6) (fun T8 => ?_)
  refine wq_aload_n rfl rfl rfl ?_
  refine wq_iconst rfl rfl ?_
  refine wq_iload_n rfl rfl hv2 ?_
  refine wq_bipush rfl rfl ?_
  refine wq_ic_ne rfl rfl hv2 (by decide) (fun h9 => ?_) (fun h9 => ?_)
  · replace h := od_neg h h9
    refine wq_iload_n rfl rfl hv2 ?_
    refine wq_iconst rfl rfl ?_
    refine wq_iconst rfl rfl ?_
    obtain ⟨y10, e11, h⟩ := od_bindE h
    refine wd_virtN (q := 0) (y := y10) (as := [36893488147419103232, 3, v2, 0, 0]) rfl rfl rfl (by decide) (Nat.le_of_ble_eq_true rfl) (Nat.le_of_ble_eq_true rfl) rfl (Nat.le_of_ble_eq_true rfl) rfl (dkT_31 T8 (by decide) hv2 (wm_zlt (by decide)) (wm_zlt (by decide)) e11) (fun T13 => ?_)
    refine wq_aload_n rfl rfl rfl ?_
    obtain ⟨y14, e15, h⟩ := od_bindE h
    refine wd_virtZ (q := 0) (y := y14) (as := [36893488147419103232]) rfl rfl rfl (by decide) (Nat.le_of_ble_eq_true rfl) (Nat.le_of_ble_eq_true rfl) rfl (Nat.le_of_ble_eq_true rfl) rfl (dkT_212 T13 e15) (fun p16 T17 => ?_)
    exact wq_iret rfl (wm_zlt p16) (Nat.blt_eq.mpr p16) (wkOZ h T17 p16)
  · replace h := od_pos h h9
    refine wq_bipush rfl rfl ?_
    refine wq_goto rfl rfl ?_
    refine wq_iconst rfl rfl ?_
    refine wq_iconst rfl rfl ?_
    obtain ⟨y18, e19, h⟩ := od_bindE h
    refine wd_virtN (q := 0) (y := y18) (as := [36893488147419103232, 3, 8, 0, 0]) rfl rfl rfl (by decide) (Nat.le_of_ble_eq_true rfl) (Nat.le_of_ble_eq_true rfl) rfl (Nat.le_of_ble_eq_true rfl) rfl (dkT_31 T8 (by decide) (by decide) (wm_zlt (by decide)) (wm_zlt (by decide)) e19) (fun T21 => ?_)
    refine wq_aload_n rfl rfl rfl ?_
    obtain ⟨y22, e23, h⟩ := od_bindE h
    refine wd_virtZ (q := 0) (y := y22) (as := [36893488147419103232]) rfl rfl rfl (by decide) (Nat.le_of_ble_eq_true rfl) (Nat.le_of_ble_eq_true rfl) rfl (Nat.le_of_ble_eq_true rfl) rfl (dkT_212 T21 e23) (fun p24 T25 => ?_)
    exact wq_iret rfl (wm_zlt p24) (Nat.blt_eq.mpr p24) (wkOZ h T25 p24)
def dk_239_45 (F : wq_F) (v1 : Nat) (v2 : Nat) (v3 : Nat) (s0 : Nat) : Option (Nat × wq_F) :=
  if ev_s v2 < ev_s 3 then
    if v2 = 1 then
      (dk_30 F 24 0 0 0).bind fun y7 =>
      dk_239_76 y7.2 v1 v2 v3 s0 y7.1
    else
      (dk_30 F 23 0 0 0).bind fun y3 =>
      dk_239_76 y3.2 v1 v2 v3 s0 y3.1
  else
    dk_239_76 F v1 v2 v3 s0 0
theorem dk_239_45T {d : Nat} : ∀ ⦃F : wq_F⦄ (hT : wm_T F) ⦃v1 : Nat⦄ (hv1 : v1 < 4294967296) ⦃v2 : Nat⦄ (hv2 : v2 < 4294967296) ⦃v3 : Nat⦄ (hv3 : v3 < 4294967296) ⦃s0 : Nat⦄ (hs0 : s0 < 4294967296) ⦃x : Nat × wq_F⦄ (h : dk_239_45 F v1 v2 v3 s0 = some x), wq (wq_cf (d + 2)) (ev_un al_mX12_readOps.2.2.2.2) (some .boolean) 45 [36893488147419103232, v1, v2, v3, 73786976294838206464, 73786976294838206464] [s0] wm_sh F 0 0 (wkZ wm_T wm_sh x) := by
  intro F hT v1 hv1 v2 hv2 v3 hv3 s0 hs0 x h
  unfold dk_239_45 at h
  refine wq_istore rfl hs0 (Nat.le_of_ble_eq_true rfl) (Or.inr ⟨_, rfl, (wq_notL hv3)⟩) (L' := [36893488147419103232, v1, v2, v3, s0, 73786976294838206464]) rfl ?_
  refine wq_iconst rfl rfl ?_
  refine wq_istore rfl (wm_zlt (by decide)) (Nat.le_of_ble_eq_true rfl) (Or.inr ⟨_, rfl, (wq_notL hs0)⟩) (L' := [36893488147419103232, v1, v2, v3, s0, 0]) rfl ?_
  refine wq_iload_n rfl rfl hv2 ?_
  refine wq_iconst rfl rfl ?_
  refine wq_ic_ge rfl rfl hv2 (by decide) (fun h1 => ?_) (fun h1 => ?_)
  · replace h := od_neg h (Nat.not_lt.mpr h1)
    exact dk_239_76T hT hv1 hv2 hv3 hs0 (wm_zlt (by decide)) h
  · replace h := od_pos h h1
    refine wq_aload_n rfl rfl rfl ?_
    refine wq_iload_n rfl rfl hv2 ?_
    refine wq_iconst rfl rfl ?_
    refine wq_ic_ne rfl rfl hv2 (wm_zlt (by decide)) (fun h2 => ?_) (fun h2 => ?_)
    · replace h := od_neg h h2
      refine wq_bipush rfl rfl ?_
      refine wq_iconst rfl rfl ?_
      refine wq_iconst rfl rfl ?_
      refine wq_iconst rfl rfl ?_
      obtain ⟨y3, e4, h⟩ := od_bindE h
      refine wd_virtI (q := 0) (y := y3) (as := [36893488147419103232, 23, 0, 0, 0]) rfl rfl rfl (by decide) (Nat.le_of_ble_eq_true rfl) (Nat.le_of_ble_eq_true rfl) rfl (Nat.le_of_ble_eq_true rfl) rfl (dkT_30 hT (by decide) (wm_zlt (by decide)) (wm_zlt (by decide)) (wm_zlt (by decide)) e4) (fun p5 T6 => ?_)
      refine wq_istore rfl p5 (Nat.le_of_ble_eq_true rfl) (Or.inr ⟨_, rfl, (wq_notL hs0)⟩) (L' := [36893488147419103232, v1, v2, v3, s0, y3.1]) rfl ?_
      exact dk_239_76T T6 hv1 hv2 hv3 hs0 p5 h
    · replace h := od_pos h h2
      refine wq_bipush rfl rfl ?_
      refine wq_goto rfl rfl ?_
      refine wq_iconst rfl rfl ?_
      refine wq_iconst rfl rfl ?_
      refine wq_iconst rfl rfl ?_
      obtain ⟨y7, e8, h⟩ := od_bindE h
      refine wd_virtI (q := 0) (y := y7) (as := [36893488147419103232, 24, 0, 0, 0]) rfl rfl rfl (by decide) (Nat.le_of_ble_eq_true rfl) (Nat.le_of_ble_eq_true rfl) rfl (Nat.le_of_ble_eq_true rfl) rfl (dkT_30 hT (by decide) (wm_zlt (by decide)) (wm_zlt (by decide)) (wm_zlt (by decide)) e8) (fun p9 T10 => ?_)
      refine wq_istore rfl p9 (Nat.le_of_ble_eq_true rfl) (Or.inr ⟨_, rfl, (wq_notL hs0)⟩) (L' := [36893488147419103232, v1, v2, v3, s0, y7.1]) rfl ?_
      exact dk_239_76T T10 hv1 hv2 hv3 hs0 p9 h
/-- X12_readOps -/
def dk_239 (F : wq_F) (a0 : Nat) : Option (Nat × wq_F) :=
  (dk_235 F).bind fun y1 =>
  if ev_s a0 < ev_s y1.1 then
    (dk_215 y1.2).bind fun y6 =>
    if y1.1 = 1 then
      dk_239_45 y6.2 a0 y1.1 y6.1 1
    else
      if y1.1 = 2 then
        dk_239_45 y6.2 a0 y1.1 y6.1 2
      else
        od_g (y6.2 0 25 < 1502) <|
        od_let (18446744073709551616 + y6.2 11 (y6.2 0 25)) fun y13 =>
        dk_239_45 y6.2 a0 y1.1 y6.1 (ev_oL2i y13)
  else
    some (1, y1.2)
theorem dkT_239 {d : Nat} {F : wq_F} (hT : wm_T F) {a0 : Nat} (ha0 : a0 < 4294967296) {x : Nat × wq_F} (h : dk_239 F a0 = some x) : mq (d + 2 + 1) 239 [36893488147419103232, a0] wm_sh F (wkZ wm_T wm_sh x) := by
  have e : ev_ent [36893488147419103232, a0] = [36893488147419103232, a0] := by
    show 36893488147419103232 :: ev_ent [a0] = _
    rw [wm_entI ha0]
    rfl
  refine mq_of (maxL := 6) (rt := (some .boolean)) (code := (ev_un al_mX12_readOps.2.2.2.2)) (L := [36893488147419103232, a0, 73786976294838206464, 73786976294838206464, 73786976294838206464, 73786976294838206464]) rfl (by rw [e]; exact Nat.le_of_ble_eq_true rfl) (by rw [e]; rfl) ?_
  unfold dk_239 at h
  refine wq_aload_n rfl rfl rfl ?_
  obtain ⟨y1, e2, h⟩ := od_bindE h
  refine wd_virtI (q := 0) (y := y1) (as := [36893488147419103232]) rfl rfl rfl (by decide) (Nat.le_of_ble_eq_true rfl) (Nat.le_of_ble_eq_true rfl) rfl (Nat.le_of_ble_eq_true rfl) rfl (dkT_235 hT e2) (fun p3 T4 => ?_)
  refine wq_istore_n rfl p3 (Nat.le_of_ble_eq_true rfl) (Or.inr ⟨_, rfl, (wq_notL ha0)⟩) (L' := [36893488147419103232, a0, y1.1, 73786976294838206464, 73786976294838206464, 73786976294838206464]) rfl ?_
  refine wq_iload_n rfl rfl p3 ?_
  refine wq_iload_n rfl rfl ha0 ?_
  refine wq_ic_gt rfl rfl p3 ha0 (fun h5 => ?_) (fun h5 => ?_)
  · replace h := od_pos h h5
    refine wq_aload_n rfl rfl rfl ?_
    obtain ⟨y6, e7, h⟩ := od_bindE h
    refine wd_virtI (q := 0) (y := y6) (as := [36893488147419103232]) rfl rfl rfl (by decide) (Nat.le_of_ble_eq_true rfl) (Nat.le_of_ble_eq_true rfl) rfl (Nat.le_of_ble_eq_true rfl) rfl (dkT_215 T4 e7) (fun p8 T9 => ?_)
    refine wq_istore_n rfl p8 (Nat.le_of_ble_eq_true rfl) (Or.inr ⟨_, rfl, (wq_notL p3)⟩) (L' := [36893488147419103232, a0, y1.1, y6.1, 73786976294838206464, 73786976294838206464]) rfl ?_
    refine wq_iload_n rfl rfl p3 ?_
    refine wq_iconst rfl rfl ?_
    refine wq_ic_ne rfl rfl p3 (wm_zlt (by decide)) (fun h10 => ?_) (fun h10 => ?_)
    · replace h := od_neg h h10
      refine wq_iload_n rfl rfl p3 ?_
      refine wq_iconst rfl rfl ?_
      refine wq_ic_ne rfl rfl p3 (by decide) (fun h11 => ?_) (fun h11 => ?_)
      · replace h := od_neg h h11
        refine wq_aload_n rfl rfl rfl ?_
        refine wm_getR (v := 36893488147419103243) rfl (by decide) (T9.r 23 10 rfl) ?_
        refine wq_aload_n rfl rfl rfl ?_
        refine wm_getI rfl (by decide) ?_
        obtain ⟨g12, h⟩ := od_gE h
        refine wq_laload (q := 11) (n := 1502) rfl rfl (by decide) g12 (by decide) ?_
        obtain ⟨y13, e14, h⟩ := od_letE h
        refine wq_top e14.symm ?_
        have p15 : ev_isL y13 = true := wd_ge e14 (wm_al_L (T9.al (k := 11) rfl g12))
        refine wq_l2i rfl p15 ?_
        exact dk_239_45T T9 ha0 p3 p8 (Nat.mod_lt _ (by decide)) h
      · replace h := od_pos h h11
        refine wq_iconst rfl rfl ?_
        refine wq_goto rfl rfl ?_
        exact dk_239_45T T9 ha0 p3 p8 (by decide) h
    · replace h := od_pos h h10
      refine wq_iconst rfl rfl ?_
      refine wq_goto rfl rfl ?_
      exact dk_239_45T T9 ha0 p3 p8 (wm_zlt (by decide)) h
  · replace h := od_neg h (Nat.not_lt.mpr h5)
    refine wq_iconst rfl rfl ?_
    exact wq_iret rfl (wm_zlt (by decide)) (Nat.blt_eq.mpr (by decide)) (wkOZ h T4 (by decide))
/-- X12_unary -/
def dk_242 (F : wq_F) (a0 : Nat) (a1 : Nat) : Option (Nat × wq_F) :=
  od_up F 0 64 4294967295 fun F1 =>
  if a0 = 0 then
    (dk_30 F1 35 0 0 0).bind fun y19 =>
    some (1, y19.2)
  else
    if a0 = 35 then
      (dk_30 F1 34 0 0 a1).bind fun y15 =>
      some (1, y15.2)
    else
      if a0 = 45 then
        (dk_30 F1 32 13 0 a1).bind fun y11 =>
        some (1, y11.2)
      else
        (dk_30 F1 32 14 0 a1).bind fun y7 =>
        some (1, y7.2)
theorem dkT_242 {d : Nat} {F : wq_F} (hT : wm_T F) {a0 : Nat} (ha0 : a0 < 4294967296) {a1 : Nat} (ha1 : a1 < 4294967296) {x : Nat × wq_F} (h : dk_242 F a0 a1 = some x) : mq (d + 1 + 1) 242 [36893488147419103232, a0, a1] wm_sh F (wkZ wm_T wm_sh x) := by
  have e : ev_ent [36893488147419103232, a0, a1] = [36893488147419103232, a0, a1] := by
    show 36893488147419103232 :: ev_ent [a0, a1] = _
    rw [wm_entI ha0, wm_entI ha1]
    rfl
  refine mq_of (maxL := 4) (rt := (some .boolean)) (code := (ev_un al_mX12_unary.2.2.2.2)) (L := [36893488147419103232, a0, a1, 73786976294838206464]) rfl (by rw [e]; exact Nat.le_of_ble_eq_true rfl) (by rw [e]; rfl) ?_
  unfold dk_242 at h
  refine wq_aload_n rfl rfl rfl ?_
  refine wq_iconst rfl rfl ?_
  obtain ⟨F1, e2, h⟩ := od_upE h
  refine wmE_put rfl (by decide) (wq_I (by decide)) e2 ?_
  have T3 : wm_T F1 := wd_T e2 (hT.uf (f := 64) (c := 0) (v := 4294967295) rfl (show 4294967295 < 4294967296 from (by decide)))
  refine wq_iconst rfl rfl ?_
  refine wq_istore_n rfl (wm_zlt (by decide)) (Nat.le_of_ble_eq_true rfl) (Or.inr ⟨_, rfl, (wq_notL ha1)⟩) (L' := [36893488147419103232, a0, a1, 0]) rfl ?_
  refine wq_iload_n rfl rfl ha0 ?_
  refine wq_if_ne rfl rfl ha0 (fun h4 => ?_) (fun h4 => ?_)
  · replace h := od_neg h h4
    refine wq_iload_n rfl rfl ha0 ?_
    refine wq_bipush rfl rfl ?_
    refine wq_ic_ne rfl rfl ha0 (by decide) (fun h5 => ?_) (fun h5 => ?_)
    · replace h := od_neg h h5
      refine wq_aload_n rfl rfl rfl ?_
      refine wq_bipush rfl rfl ?_
      refine wq_iload_n rfl rfl ha0 ?_
      refine wq_bipush rfl rfl ?_
      refine wq_ic_ne rfl rfl ha0 (by decide) (fun h6 => ?_) (fun h6 => ?_)
      · replace h := od_neg h h6
        refine wq_bipush rfl rfl ?_
        refine wq_iconst rfl rfl ?_
        refine wq_iload_n rfl rfl ha1 ?_
        obtain ⟨y7, e8, h⟩ := od_bindE h
        refine wd_virtI (q := 0) (y := y7) (as := [36893488147419103232, 32, 14, 0, a1]) rfl rfl rfl (by decide) (Nat.le_of_ble_eq_true rfl) (Nat.le_of_ble_eq_true rfl) rfl (Nat.le_of_ble_eq_true rfl) rfl (dkT_30 T3 (by decide) (by decide) (wm_zlt (by decide)) ha1 e8) (fun p9 T10 => ?_)
        refine wq_istore_n rfl p9 (Nat.le_of_ble_eq_true rfl) (Or.inr ⟨_, rfl, (wq_notL ha1)⟩) (L' := [36893488147419103232, a0, a1, y7.1]) rfl ?_
        refine wq_iconst rfl rfl ?_
        exact wq_iret rfl (wm_zlt (by decide)) (Nat.blt_eq.mpr (by decide)) (wkOZ h T10 (by decide))
      · replace h := od_pos h h6
        refine wq_bipush rfl rfl ?_
        refine wq_goto rfl rfl ?_
        refine wq_iconst rfl rfl ?_
        refine wq_iload_n rfl rfl ha1 ?_
        obtain ⟨y11, e12, h⟩ := od_bindE h
        refine wd_virtI (q := 0) (y := y11) (as := [36893488147419103232, 32, 13, 0, a1]) rfl rfl rfl (by decide) (Nat.le_of_ble_eq_true rfl) (Nat.le_of_ble_eq_true rfl) rfl (Nat.le_of_ble_eq_true rfl) rfl (dkT_30 T3 (by decide) (by decide) (wm_zlt (by decide)) ha1 e12) (fun p13 T14 => ?_)
        refine wq_istore_n rfl p13 (Nat.le_of_ble_eq_true rfl) (Or.inr ⟨_, rfl, (wq_notL ha1)⟩) (L' := [36893488147419103232, a0, a1, y11.1]) rfl ?_
        refine wq_iconst rfl rfl ?_
        exact wq_iret rfl (wm_zlt (by decide)) (Nat.blt_eq.mpr (by decide)) (wkOZ h T14 (by decide))
    · replace h := od_pos h h5
      refine wq_aload_n rfl rfl rfl ?_
      refine wq_bipush rfl rfl ?_
      refine wq_iconst rfl rfl ?_
      refine wq_iconst rfl rfl ?_
      refine wq_iload_n rfl rfl ha1 ?_
      obtain ⟨y15, e16, h⟩ := od_bindE h
      refine wd_virtI (q := 0) (y := y15) (as := [36893488147419103232, 34, 0, 0, a1]) rfl rfl rfl (by decide) (Nat.le_of_ble_eq_true rfl) (Nat.le_of_ble_eq_true rfl) rfl (Nat.le_of_ble_eq_true rfl) rfl (dkT_30 T3 (by decide) (wm_zlt (by decide)) (wm_zlt (by decide)) ha1 e16) (fun p17 T18 => ?_)
      refine wq_istore_n rfl p17 (Nat.le_of_ble_eq_true rfl) (Or.inr ⟨_, rfl, (wq_notL ha1)⟩) (L' := [36893488147419103232, a0, a1, y15.1]) rfl ?_
      refine wq_goto rfl rfl ?_
      refine wq_iconst rfl rfl ?_
      exact wq_iret rfl (wm_zlt (by decide)) (Nat.blt_eq.mpr (by decide)) (wkOZ h T18 (by decide))
  · replace h := od_pos h h4
    refine wq_aload_n rfl rfl rfl ?_
    refine wq_bipush rfl rfl ?_
    refine wq_iconst rfl rfl ?_
    refine wq_iconst rfl rfl ?_
    refine wq_iconst rfl rfl ?_
    obtain ⟨y19, e20, h⟩ := od_bindE h
    refine wd_virtI (q := 0) (y := y19) (as := [36893488147419103232, 35, 0, 0, 0]) rfl rfl rfl (by decide) (Nat.le_of_ble_eq_true rfl) (Nat.le_of_ble_eq_true rfl) rfl (Nat.le_of_ble_eq_true rfl) rfl (dkT_30 T3 (by decide) (wm_zlt (by decide)) (wm_zlt (by decide)) (wm_zlt (by decide)) e20) (fun p21 T22 => ?_)
    refine wq_istore_n rfl p21 (Nat.le_of_ble_eq_true rfl) (Or.inr ⟨_, rfl, (wq_notL ha1)⟩) (L' := [36893488147419103232, a0, a1, y19.1]) rfl ?_
    refine wq_goto rfl rfl ?_
    refine wq_iconst rfl rfl ?_
    exact wq_iret rfl (wm_zlt (by decide)) (Nat.blt_eq.mpr (by decide)) (wkOZ h T22 (by decide))
/-- X12_eventOf -/
def dk_240 (F : wq_F) (a0 : Nat) : Option (Nat × wq_F) :=
  if a0 = 37 then
    some (7, F)
  else if a0 = 38 then
    some (8, F)
  else if a0 = 42 then
    some (5, F)
  else if a0 = 43 then
    some (3, F)
  else if a0 = 45 then
    some (4, F)
  else if a0 = 124 then
    some (9, F)
  else if a0 = 126 then
    some (10, F)
  else if a0 = 306 then
    some (11, F)
  else if a0 = 308 then
    some (6, F)
  else 
  some (12, F)
theorem dkT_240 {d : Nat} {F : wq_F} (hT : wm_T F) {a0 : Nat} (ha0 : a0 < 4294967296) {x : Nat × wq_F} (h : dk_240 F a0 = some x) : mq (d + 0 + 1) 240 [a0] wm_sh F (wkI wm_T wm_sh x) := by
  have e : ev_ent [a0] = [a0] := by
    rw [wm_entI ha0]
    rfl
  refine mq_of (maxL := 1) (rt := (some .int)) (code := (ev_un al_mX12_eventOf.2.2.2.2)) (L := [a0]) rfl (by rw [e]; exact Nat.le_of_ble_eq_true rfl) (by rw [e]; rfl) ?_
  unfold dk_240 at h
  refine wq_iload_n rfl rfl ha0 ?_
  by_cases h1 : a0 = 37
  case pos =>
    replace h := od_pos h h1
    refine wq_top h1 ?_
    refine wq_lsw rfl (by decide) rfl (tgt := 93) rfl ?_
    refine wq_bipush rfl rfl ?_
    exact wq_iret rfl (by decide) rfl (wkOI h hT (by decide))
  replace h := od_neg h h1
  by_cases h2 : a0 = 38
  case pos =>
    replace h := od_pos h h2
    refine wq_top h2 ?_
    refine wq_lsw rfl (by decide) rfl (tgt := 96) rfl ?_
    refine wq_bipush rfl rfl ?_
    exact wq_iret rfl (by decide) rfl (wkOI h hT (by decide))
  replace h := od_neg h h2
  by_cases h3 : a0 = 42
  case pos =>
    replace h := od_pos h h3
    refine wq_top h3 ?_
    refine wq_lsw rfl (by decide) rfl (tgt := 88) rfl ?_
    refine wq_iconst rfl rfl ?_
    exact wq_iret rfl (by decide) rfl (wkOI h hT (by decide))
  replace h := od_neg h h3
  by_cases h4 : a0 = 43
  case pos =>
    replace h := od_pos h h4
    refine wq_top h4 ?_
    refine wq_lsw rfl (by decide) rfl (tgt := 84) rfl ?_
    refine wq_iconst rfl rfl ?_
    exact wq_iret rfl (by decide) rfl (wkOI h hT (by decide))
  replace h := od_neg h h4
  by_cases h5 : a0 = 45
  case pos =>
    replace h := od_pos h h5
    refine wq_top h5 ?_
    refine wq_lsw rfl (by decide) rfl (tgt := 86) rfl ?_
    refine wq_iconst rfl rfl ?_
    exact wq_iret rfl (by decide) rfl (wkOI h hT (by decide))
  replace h := od_neg h h5
  by_cases h6 : a0 = 124
  case pos =>
    replace h := od_pos h h6
    refine wq_top h6 ?_
    refine wq_lsw rfl (by decide) rfl (tgt := 99) rfl ?_
    refine wq_bipush rfl rfl ?_
    exact wq_iret rfl (by decide) rfl (wkOI h hT (by decide))
  replace h := od_neg h h6
  by_cases h7 : a0 = 126
  case pos =>
    replace h := od_pos h h7
    refine wq_top h7 ?_
    refine wq_lsw rfl (by decide) rfl (tgt := 102) rfl ?_
    refine wq_bipush rfl rfl ?_
    exact wq_iret rfl (by decide) rfl (wkOI h hT (by decide))
  replace h := od_neg h h7
  by_cases h8 : a0 = 306
  case pos =>
    replace h := od_pos h h8
    refine wq_top h8 ?_
    refine wq_lsw rfl (by decide) rfl (tgt := 105) rfl ?_
    refine wq_bipush rfl rfl ?_
    exact wq_iret rfl (by decide) rfl (wkOI h hT (by decide))
  replace h := od_neg h h8
  by_cases h9 : a0 = 308
  case pos =>
    replace h := od_pos h h9
    refine wq_top h9 ?_
    refine wq_lsw rfl (by decide) rfl (tgt := 90) rfl ?_
    refine wq_bipush rfl rfl ?_
    exact wq_iret rfl (by decide) rfl (wkOI h hT (by decide))
  replace h := od_neg h h9
  refine wq_lswD rfl ha0 rfl (List.forall_mem_cons.mpr ⟨wq_siNe (v := 37) ha0 (by decide) h1, (List.forall_mem_cons.mpr ⟨wq_siNe (v := 38) ha0 (by decide) h2, (List.forall_mem_cons.mpr ⟨wq_siNe (v := 42) ha0 (by decide) h3, (List.forall_mem_cons.mpr ⟨wq_siNe (v := 43) ha0 (by decide) h4, (List.forall_mem_cons.mpr ⟨wq_siNe (v := 45) ha0 (by decide) h5, (List.forall_mem_cons.mpr ⟨wq_siNe (v := 124) ha0 (by decide) h6, (List.forall_mem_cons.mpr ⟨wq_siNe (v := 126) ha0 (by decide) h7, (List.forall_mem_cons.mpr ⟨wq_siNe (v := 306) ha0 (by decide) h8, (List.forall_mem_cons.mpr ⟨wq_siNe (v := 308) ha0 (by decide) h9, (fun _ h => absurd h List.not_mem_nil)⟩)⟩)⟩)⟩)⟩)⟩)⟩)⟩)⟩) rfl (tgt := 108) rfl ?_
  refine wq_bipush rfl rfl ?_
  exact wq_iret rfl (by decide) rfl (wkOI h hT (by decide))
def dk_241_61 (F : wq_F) (v1 : Nat) (v2 : Nat) : Option (Nat × wq_F) :=
  if v1 = 303 then
    (dk_30 F 36 1 0 v2).bind fun y6 =>
    some (1, y6.2)
  else
    (dk_30 F 36 0 0 v2).bind fun y2 =>
    some (1, y2.2)
theorem dk_241_61T {d : Nat} : ∀ ⦃u3 : Nat⦄ ⦃u4 : Nat⦄ ⦃F : wq_F⦄ (hT : wm_T F) ⦃v1 : Nat⦄ (hv1 : v1 < 4294967296) ⦃v2 : Nat⦄ (hv2 : v2 < 4294967296) (hu3 : ev_isL u3 = false) (hu4 : ev_isL u4 = false) ⦃x : Nat × wq_F⦄ (h : dk_241_61 F v1 v2 = some x), wq (wq_cf (d + 1)) (ev_un al_mX12_binary.2.2.2.2) (some .boolean) 61 [36893488147419103232, v1, v2, u3, u4] [] wm_sh F 0 0 (wkZ wm_T wm_sh x) := by
  intro u3 u4 F hT v1 hv1 v2 hv2 hu3 hu4 x h
  unfold dk_241_61 at h
  refine wq_aload_n rfl rfl rfl ?_
  refine wq_bipush rfl rfl ?_
  refine wq_iload_n rfl rfl hv1 ?_
  refine wq_sipush rfl rfl ?_
  refine wq_ic_ne rfl rfl hv1 (by decide) (fun h1 => ?_) (fun h1 => ?_)
  · replace h := od_neg h h1
    refine wq_iconst rfl rfl ?_
    refine wq_iconst rfl rfl ?_
    refine wq_iload_n rfl rfl hv2 ?_
    obtain ⟨y2, e3, h⟩ := od_bindE h
    refine wd_virtI (q := 0) (y := y2) (as := [36893488147419103232, 36, 0, 0, v2]) rfl rfl rfl (by decide) (Nat.le_of_ble_eq_true rfl) (Nat.le_of_ble_eq_true rfl) rfl (Nat.le_of_ble_eq_true rfl) rfl (dkT_30 hT (by decide) (wm_zlt (by decide)) (wm_zlt (by decide)) hv2 e3) (fun p4 T5 => ?_)
    refine wq_istore rfl p4 (Nat.le_of_ble_eq_true rfl) (Or.inr ⟨_, rfl, hu3⟩) (L' := [36893488147419103232, v1, v2, u3, y2.1]) rfl ?_
    refine wq_goto rfl rfl ?_
    refine wq_iconst rfl rfl ?_
    exact wq_iret rfl (wm_zlt (by decide)) (Nat.blt_eq.mpr (by decide)) (wkOZ h T5 (by decide))
  · replace h := od_pos h h1
    refine wq_iconst rfl rfl ?_
    refine wq_goto rfl rfl ?_
    refine wq_iconst rfl rfl ?_
    refine wq_iload_n rfl rfl hv2 ?_
    obtain ⟨y6, e7, h⟩ := od_bindE h
    refine wd_virtI (q := 0) (y := y6) (as := [36893488147419103232, 36, 1, 0, v2]) rfl rfl rfl (by decide) (Nat.le_of_ble_eq_true rfl) (Nat.le_of_ble_eq_true rfl) rfl (Nat.le_of_ble_eq_true rfl) rfl (dkT_30 hT (by decide) (wm_zlt (by decide)) (wm_zlt (by decide)) hv2 e7) (fun p8 T9 => ?_)
    refine wq_istore rfl p8 (Nat.le_of_ble_eq_true rfl) (Or.inr ⟨_, rfl, hu3⟩) (L' := [36893488147419103232, v1, v2, u3, y6.1]) rfl ?_
    refine wq_goto rfl rfl ?_
    refine wq_iconst rfl rfl ?_
    exact wq_iret rfl (wm_zlt (by decide)) (Nat.blt_eq.mpr (by decide)) (wkOZ h T9 (by decide))
def dk_241_116 (F : wq_F) (v1 : Nat) (v2 : Nat) (s0 : Nat) (s1 : Nat) : Option (Nat × wq_F) :=
  if v1 = 62 then
    (dk_30 F s1 s0 1 v2).bind fun y2 =>
    some (1, y2.2)
  else
    if v1 = 305 then
      (dk_30 F s1 s0 1 v2).bind fun y11 =>
      some (1, y11.2)
    else
      (dk_30 F s1 s0 0 v2).bind fun y7 =>
      some (1, y7.2)
theorem dk_241_116T {d : Nat} : ∀ ⦃u3 : Nat⦄ ⦃u4 : Nat⦄ ⦃F : wq_F⦄ (hT : wm_T F) ⦃v1 : Nat⦄ (hv1 : v1 < 4294967296) ⦃v2 : Nat⦄ (hv2 : v2 < 4294967296) ⦃s0 : Nat⦄ (hs0 : s0 < 2) ⦃s1 : Nat⦄ (hs1 : s1 < 4294967296) (hu3 : ev_isL u3 = false) (hu4 : ev_isL u4 = false) ⦃x : Nat × wq_F⦄ (h : dk_241_116 F v1 v2 s0 s1 = some x), wq (wq_cf (d + 1)) (ev_un al_mX12_binary.2.2.2.2) (some .boolean) 116 [36893488147419103232, v1, v2, u3, u4] [s0, s1, 36893488147419103232] wm_sh F 0 0 (wkZ wm_T wm_sh x) := by
  intro u3 u4 F hT v1 hv1 v2 hv2 s0 hs0 s1 hs1 hu3 hu4 x h
  unfold dk_241_116 at h
  refine wq_iload_n rfl rfl hv1 ?_
  refine wq_bipush rfl rfl ?_
  refine wq_ic_eq rfl rfl hv1 (by decide) (fun h1 => ?_) (fun h1 => ?_)
  · replace h := od_pos h h1
    refine wq_iconst rfl rfl ?_
    refine wq_goto rfl rfl ?_
    refine wq_iload_n rfl rfl hv2 ?_
    obtain ⟨y2, e3, h⟩ := od_bindE h
    refine wd_virtI (q := 0) (y := y2) (as := [36893488147419103232, s1, s0, 1, v2]) rfl rfl rfl (by decide) (Nat.le_of_ble_eq_true rfl) (Nat.le_of_ble_eq_true rfl) rfl (Nat.le_of_ble_eq_true rfl) rfl (dkT_30 hT hs1 (wm_zlt hs0) (wm_zlt (by decide)) hv2 e3) (fun p4 T5 => ?_)
    refine wq_istore rfl p4 (Nat.le_of_ble_eq_true rfl) (Or.inr ⟨_, rfl, hu3⟩) (L' := [36893488147419103232, v1, v2, u3, y2.1]) rfl ?_
    refine wq_goto rfl rfl ?_
    refine wq_iconst rfl rfl ?_
    exact wq_iret rfl (wm_zlt (by decide)) (Nat.blt_eq.mpr (by decide)) (wkOZ h T5 (by decide))
  · replace h := od_neg h h1
    refine wq_iload_n rfl rfl hv1 ?_
    refine wq_sipush rfl rfl ?_
    refine wq_ic_ne rfl rfl hv1 (by decide) (fun h6 => ?_) (fun h6 => ?_)
    · replace h := od_neg h h6
      refine wq_iconst rfl rfl ?_
      refine wq_iload_n rfl rfl hv2 ?_
      obtain ⟨y7, e8, h⟩ := od_bindE h
      refine wd_virtI (q := 0) (y := y7) (as := [36893488147419103232, s1, s0, 0, v2]) rfl rfl rfl (by decide) (Nat.le_of_ble_eq_true rfl) (Nat.le_of_ble_eq_true rfl) rfl (Nat.le_of_ble_eq_true rfl) rfl (dkT_30 hT hs1 (wm_zlt hs0) (wm_zlt (by decide)) hv2 e8) (fun p9 T10 => ?_)
      refine wq_istore rfl p9 (Nat.le_of_ble_eq_true rfl) (Or.inr ⟨_, rfl, hu3⟩) (L' := [36893488147419103232, v1, v2, u3, y7.1]) rfl ?_
      refine wq_goto rfl rfl ?_
      refine wq_iconst rfl rfl ?_
      exact wq_iret rfl (wm_zlt (by decide)) (Nat.blt_eq.mpr (by decide)) (wkOZ h T10 (by decide))
    · replace h := od_pos h h6
      refine wq_iconst rfl rfl ?_
      refine wq_goto rfl rfl ?_
      refine wq_iload_n rfl rfl hv2 ?_
      obtain ⟨y11, e12, h⟩ := od_bindE h
      refine wd_virtI (q := 0) (y := y11) (as := [36893488147419103232, s1, s0, 1, v2]) rfl rfl rfl (by decide) (Nat.le_of_ble_eq_true rfl) (Nat.le_of_ble_eq_true rfl) rfl (Nat.le_of_ble_eq_true rfl) rfl (dkT_30 hT hs1 (wm_zlt hs0) (wm_zlt (by decide)) hv2 e12) (fun p13 T14 => ?_)
      refine wq_istore rfl p13 (Nat.le_of_ble_eq_true rfl) (Or.inr ⟨_, rfl, hu3⟩) (L' := [36893488147419103232, v1, v2, u3, y11.1]) rfl ?_
      refine wq_goto rfl rfl ?_
      refine wq_iconst rfl rfl ?_
      exact wq_iret rfl (wm_zlt (by decide)) (Nat.blt_eq.mpr (by decide)) (wkOZ h T14 (by decide))
/-- X12_binary -/
def dk_241 (F : wq_F) (a0 : Nat) (a1 : Nat) (a2 : Nat) : Option (Nat × wq_F) :=
  od_up F 0 64 4294967295 fun F1 =>
  if ev_s a0 < ev_s 3 then
    od_g (a2 < 14000) <|
    od_up F1 21 a2 (F1 0 41) fun F28 =>
    some (1, F28)
  else
    if a0 = 300 then
      (dk_30 F1 33 0 0 a1).bind fun y23 =>
      some (1, y23.2)
    else
      if a0 = 302 then
        dk_241_61 F1 a0 a1
      else
        if a0 = 303 then
          dk_241_61 F1 a0 a1
        else
          (dk_234 F1 a0).bind fun y8 =>
          if y8.1 = 3 then
            if a0 = 304 then
              dk_241_116 y8.2 a0 a1 1 37
            else
              if a0 = 305 then
                dk_241_116 y8.2 a0 a1 1 37
              else
                dk_241_116 y8.2 a0 a1 0 37
          else
            (dk_240 y8.2 a0).bind fun y13 =>
            (dk_30 y13.2 31 y13.1 0 a1).bind fun y17 =>
            some (1, y17.2)
theorem dkT_241 {d : Nat} {F : wq_F} (hT : wm_T F) {a0 : Nat} (ha0 : a0 < 4294967296) {a1 : Nat} (ha1 : a1 < 4294967296) {a2 : Nat} (ha2 : a2 < 4294967296) {x : Nat × wq_F} (h : dk_241 F a0 a1 a2 = some x) : mq (d + 1 + 1) 241 [36893488147419103232, a0, a1, a2] wm_sh F (wkZ wm_T wm_sh x) := by
  have e : ev_ent [36893488147419103232, a0, a1, a2] = [36893488147419103232, a0, a1, a2] := by
    show 36893488147419103232 :: ev_ent [a0, a1, a2] = _
    rw [wm_entI ha0, wm_entI ha1, wm_entI ha2]
    rfl
  refine mq_of (maxL := 5) (rt := (some .boolean)) (code := (ev_un al_mX12_binary.2.2.2.2)) (L := [36893488147419103232, a0, a1, a2, 73786976294838206464]) rfl (by rw [e]; exact Nat.le_of_ble_eq_true rfl) (by rw [e]; rfl) ?_
  unfold dk_241 at h
  refine wq_aload_n rfl rfl rfl ?_
  refine wq_iconst rfl rfl ?_
  obtain ⟨F1, e2, h⟩ := od_upE h
  refine wmE_put rfl (by decide) (wq_I (by decide)) e2 ?_
  have T3 : wm_T F1 := wd_T e2 (hT.uf (f := 64) (c := 0) (v := 4294967295) rfl (show 4294967295 < 4294967296 from (by decide)))
  refine wq_iconst rfl rfl ?_
  refine wq_istore rfl (wm_zlt (by decide)) (Nat.le_of_ble_eq_true rfl) (Or.inr ⟨_, rfl, (wq_notL ha2)⟩) (L' := [36893488147419103232, a0, a1, a2, 0]) rfl ?_
  refine wq_iload_n rfl rfl ha0 ?_
  refine wq_iconst rfl rfl ?_
  refine wq_ic_ge rfl rfl ha0 (by decide) (fun h4 => ?_) (fun h4 => ?_)
  · replace h := od_neg h (Nat.not_lt.mpr h4)
    refine wq_iload_n rfl rfl ha0 ?_
    refine wq_sipush rfl rfl ?_
    refine wq_ic_ne rfl rfl ha0 (by decide) (fun h5 => ?_) (fun h5 => ?_)
    · replace h := od_neg h h5
      refine wq_iload_n rfl rfl ha0 ?_
      refine wq_sipush rfl rfl ?_
      refine wq_ic_eq rfl rfl ha0 (by decide) (fun h6 => ?_) (fun h6 => ?_)
      · replace h := od_pos h h6
        exact dk_241_61T T3 ha0 ha1 (wq_notL ha2) (wq_notL (wm_zlt (by decide))) h
      · replace h := od_neg h h6
        refine wq_iload_n rfl rfl ha0 ?_
        refine wq_sipush rfl rfl ?_
        refine wq_ic_ne rfl rfl ha0 (by decide) (fun h7 => ?_) (fun h7 => ?_)
        · replace h := od_neg h h7
          refine wq_iload_n rfl rfl ha0 ?_
          obtain ⟨y8, e9, h⟩ := od_bindE h
          refine wd_statI (y := y8) (as := [a0]) rfl (by decide) (Nat.le_of_ble_eq_true rfl) rfl (Nat.le_of_ble_eq_true rfl) rfl (dkT_234 T3 ha0 e9) (fun p10 T11 => ?_)
          refine wq_iconst rfl rfl ?_
          refine wq_ic_ne rfl rfl p10 (by decide) (fun h12 => ?_) (fun h12 => ?_)
          · replace h := od_neg h h12
            refine wq_aload_n rfl rfl rfl ?_
            refine wq_bipush rfl rfl ?_
            refine wq_iload_n rfl rfl ha0 ?_
            obtain ⟨y13, e14, h⟩ := od_bindE h
            refine wd_statI (y := y13) (as := [a0]) rfl (by decide) (Nat.le_of_ble_eq_true rfl) rfl (Nat.le_of_ble_eq_true rfl) rfl (dkT_240 T11 ha0 e14) (fun p15 T16 => ?_)
            refine wq_iconst rfl rfl ?_
            refine wq_iload_n rfl rfl ha1 ?_
            obtain ⟨y17, e18, h⟩ := od_bindE h
            refine wd_virtI (q := 0) (y := y17) (as := [36893488147419103232, 31, y13.1, 0, a1]) rfl rfl rfl (by decide) (Nat.le_of_ble_eq_true rfl) (Nat.le_of_ble_eq_true rfl) rfl (Nat.le_of_ble_eq_true rfl) rfl (dkT_30 T16 (by decide) p15 (wm_zlt (by decide)) ha1 e18) (fun p19 T20 => ?_)
            refine wq_istore rfl p19 (Nat.le_of_ble_eq_true rfl) (Or.inr ⟨_, rfl, (wq_notL ha2)⟩) (L' := [36893488147419103232, a0, a1, a2, y17.1]) rfl ?_
            refine wq_iconst rfl rfl ?_
            exact wq_iret rfl (wm_zlt (by decide)) (Nat.blt_eq.mpr (by decide)) (wkOZ h T20 (by decide))
          · replace h := od_pos h h12
            refine wq_aload_n rfl rfl rfl ?_
            refine wq_bipush rfl rfl ?_
            refine wq_iload_n rfl rfl ha0 ?_
            refine wq_sipush rfl rfl ?_
            refine wq_ic_eq rfl rfl ha0 (by decide) (fun h21 => ?_) (fun h21 => ?_)
            · replace h := od_pos h h21
              refine wq_iconst rfl rfl ?_
              refine wq_goto rfl rfl ?_
              exact dk_241_116T T11 ha0 ha1 (by decide) (by decide) (wq_notL ha2) (wq_notL (wm_zlt (by decide))) h
            · replace h := od_neg h h21
              refine wq_iload_n rfl rfl ha0 ?_
              refine wq_sipush rfl rfl ?_
              refine wq_ic_ne rfl rfl ha0 (by decide) (fun h22 => ?_) (fun h22 => ?_)
              · replace h := od_neg h h22
                refine wq_iconst rfl rfl ?_
                exact dk_241_116T T11 ha0 ha1 (by decide) (by decide) (wq_notL ha2) (wq_notL (wm_zlt (by decide))) h
              · replace h := od_pos h h22
                refine wq_iconst rfl rfl ?_
                refine wq_goto rfl rfl ?_
                exact dk_241_116T T11 ha0 ha1 (by decide) (by decide) (wq_notL ha2) (wq_notL (wm_zlt (by decide))) h
        · replace h := od_pos h h7
          exact dk_241_61T T3 ha0 ha1 (wq_notL ha2) (wq_notL (wm_zlt (by decide))) h
    · replace h := od_pos h h5
      refine wq_aload_n rfl rfl rfl ?_
      refine wq_bipush rfl rfl ?_
      refine wq_iconst rfl rfl ?_
      refine wq_iconst rfl rfl ?_
      refine wq_iload_n rfl rfl ha1 ?_
      obtain ⟨y23, e24, h⟩ := od_bindE h
      refine wd_virtI (q := 0) (y := y23) (as := [36893488147419103232, 33, 0, 0, a1]) rfl rfl rfl (by decide) (Nat.le_of_ble_eq_true rfl) (Nat.le_of_ble_eq_true rfl) rfl (Nat.le_of_ble_eq_true rfl) rfl (dkT_30 T3 (by decide) (wm_zlt (by decide)) (wm_zlt (by decide)) ha1 e24) (fun p25 T26 => ?_)
      refine wq_istore rfl p25 (Nat.le_of_ble_eq_true rfl) (Or.inr ⟨_, rfl, (wq_notL ha2)⟩) (L' := [36893488147419103232, a0, a1, a2, y23.1]) rfl ?_
      refine wq_goto rfl rfl ?_
      refine wq_iconst rfl rfl ?_
      exact wq_iret rfl (wm_zlt (by decide)) (Nat.blt_eq.mpr (by decide)) (wkOZ h T26 (by decide))
  · replace h := od_pos h h4
    refine wq_aload_n rfl rfl rfl ?_
    refine wm_getR (v := 36893488147419103253) rfl (by decide) (T3.r 36 20 rfl) ?_
    refine wq_iload_n rfl rfl ha2 ?_
    refine wq_aload_n rfl rfl rfl ?_
    refine wm_getI rfl (by decide) ?_
    obtain ⟨g27, h⟩ := od_gE h
    obtain ⟨F28, e29, h⟩ := od_upE h
    refine wd_iastore (q := 21) (n := 14000) rfl rfl (by decide) g27 (by decide) (T3.i 41 rfl) e29 ?_
    have T30 : wm_T F28 := wd_T e29 (T3.ua (k := 21) (kd := 1000) (n := 14000) (i := a2) (v := F1 0 41) rfl (by decide) g27 (show F1 0 41 < 4294967296 from (T3.i 41 rfl)))
    refine wq_goto rfl rfl ?_
    refine wq_iconst rfl rfl ?_
    exact wq_iret rfl (wm_zlt (by decide)) (Nat.blt_eq.mpr (by decide)) (wkOZ h T30 (by decide))
/-- X12_chain -/
def dk_243 (n : Nat) (F : wq_F) : Option (Nat × wq_F) :=
  od_g (F 0 25 < 1502) <|
  if (F 9 (F 0 25)) = 1 then
    od_g (F 0 25 < 1502) <|
    od_let (18446744073709551616 + F 11 (F 0 25)) fun y25 =>
    (dk_210 F).bind fun y28 =>
    (dk_222 n y28.2 (ev_oL2i y25) y28.1).bind fun y32 =>
    (dk_31 y32.2 8 0 0 0).bind fun y36 =>
    if (y36.2 0 4) = 0 then
      (dk_212 y36.2).bind fun y41 =>
      if y41.1 = 0 then
        some (0, y41.2)
      else
        some (1, y41.2)
    else
      some (0, y36.2)
  else
    (dk_36 F 40).bind fun y3 =>
    if y3.1 = 0 then
      (dk_211 y3.2).bind fun y20 =>
      some (y20.1, y20.2)
    else
      (dk_31 y3.2 9 0 0 0).bind fun y8 =>
      (dk_31 y8.2 3 0 0 0).bind fun y12 =>
      (dk_212 y12.2).bind fun y16 =>
      some (y16.1, y16.2)
theorem dkT_243 {d n : Nat} {F : wq_F} (hT : wm_T F) {x : Nat × wq_F} (h : dk_243 n F = some x) : mq (d + 3 + 1) 243 [36893488147419103232] wm_sh F (wkZ wm_T wm_sh x) := by
  have e : ev_ent [36893488147419103232] = [36893488147419103232] := by
    rfl
  refine mq_of (maxL := 1) (rt := (some .boolean)) (code := (ev_un al_mX12_chain.2.2.2.2)) (L := [36893488147419103232]) rfl (by rw [e]; exact Nat.le_of_ble_eq_true rfl) (by rw [e]; rfl) ?_
  unfold dk_243 at h
  refine wq_aload_n rfl rfl rfl ?_
  refine wm_getR (v := 36893488147419103241) rfl (by decide) (hT.r 21 8 rfl) ?_
  refine wq_aload_n rfl rfl rfl ?_
  refine wm_getI rfl (by decide) ?_
  obtain ⟨g1, h⟩ := od_gE h
  refine wq_iaload (q := 9) (n := 1502) rfl rfl (by decide) g1 (by decide) ?_
  refine wq_iconst rfl rfl ?_
  refine wq_ic_ne rfl rfl (hT.ai (k := 9) rfl g1) (wm_zlt (by decide)) (fun h2 => ?_) (fun h2 => ?_)
  · replace h := od_neg h h2
    refine wq_aload_n rfl rfl rfl ?_
    refine wq_bipush rfl rfl ?_
    obtain ⟨y3, e4, h⟩ := od_bindE h
    refine wd_virtZ (q := 0) (y := y3) (as := [36893488147419103232, 40]) rfl rfl rfl (by decide) (Nat.le_of_ble_eq_true rfl) (Nat.le_of_ble_eq_true rfl) rfl (Nat.le_of_ble_eq_true rfl) rfl (dkT_36 hT (by decide) e4) (fun p5 T6 => ?_)
    refine wq_if_ne rfl rfl (wm_zlt p5) (fun h7 => ?_) (fun h7 => ?_)
    · replace h := od_neg h h7
      refine wq_aload_n rfl rfl rfl ?_
      refine wq_bipush rfl rfl ?_
      refine wq_iconst rfl rfl ?_
      refine wq_iconst rfl rfl ?_
      refine wq_iconst rfl rfl ?_
      obtain ⟨y8, e9, h⟩ := od_bindE h
      refine wd_virtN (q := 0) (y := y8) (as := [36893488147419103232, 9, 0, 0, 0]) rfl rfl rfl (by decide) (Nat.le_of_ble_eq_true rfl) (Nat.le_of_ble_eq_true rfl) rfl (Nat.le_of_ble_eq_true rfl) rfl (dkT_31 T6 (by decide) (wm_zlt (by decide)) (wm_zlt (by decide)) (wm_zlt (by decide)) e9) (fun T11 => ?_)
      refine wq_aload_n rfl rfl rfl ?_
      refine wq_iconst rfl rfl ?_
      refine wq_iconst rfl rfl ?_
      refine wq_iconst rfl rfl ?_
      refine wq_iconst rfl rfl ?_
      obtain ⟨y12, e13, h⟩ := od_bindE h
      refine wd_virtN (q := 0) (y := y12) (as := [36893488147419103232, 3, 0, 0, 0]) rfl rfl rfl (by decide) (Nat.le_of_ble_eq_true rfl) (Nat.le_of_ble_eq_true rfl) rfl (Nat.le_of_ble_eq_true rfl) rfl (dkT_31 T11 (by decide) (wm_zlt (by decide)) (wm_zlt (by decide)) (wm_zlt (by decide)) e13) (fun T15 => ?_)
      refine wq_aload_n rfl rfl rfl ?_
      obtain ⟨y16, e17, h⟩ := od_bindE h
      refine wd_virtZ (q := 0) (y := y16) (as := [36893488147419103232]) rfl rfl rfl (by decide) (Nat.le_of_ble_eq_true rfl) (Nat.le_of_ble_eq_true rfl) rfl (Nat.le_of_ble_eq_true rfl) rfl (dkT_212 T15 e17) (fun p18 T19 => ?_)
      exact wq_iret rfl (wm_zlt p18) (Nat.blt_eq.mpr p18) (wkOZ h T19 p18)
    · replace h := od_pos h h7
      refine wq_aload_n rfl rfl rfl ?_
      obtain ⟨y20, e21, h⟩ := od_bindE h
      refine wd_virtZ (q := 0) (y := y20) (as := [36893488147419103232]) rfl rfl rfl (by decide) (Nat.le_of_ble_eq_true rfl) (Nat.le_of_ble_eq_true rfl) rfl (Nat.le_of_ble_eq_true rfl) rfl (dkT_211 T6 e21) (fun p22 T23 => ?_)
      exact wq_iret rfl (wm_zlt p22) (Nat.blt_eq.mpr p22) (wkOZ h T23 p22)
  · replace h := od_pos h h2
    refine wq_aload_n rfl rfl rfl ?_
    refine wq_aload_n rfl rfl rfl ?_
    refine wm_getR (v := 36893488147419103243) rfl (by decide) (hT.r 23 10 rfl) ?_
    refine wq_aload_n rfl rfl rfl ?_
    refine wm_getI rfl (by decide) ?_
    obtain ⟨g24, h⟩ := od_gE h
    refine wq_laload (q := 11) (n := 1502) rfl rfl (by decide) g24 (by decide) ?_
    obtain ⟨y25, e26, h⟩ := od_letE h
    refine wq_top e26.symm ?_
    have p27 : ev_isL y25 = true := wd_ge e26 (wm_al_L (hT.al (k := 11) rfl g24))
    refine wq_l2i rfl p27 ?_
    refine wq_aload_n rfl rfl rfl ?_
    obtain ⟨y28, e29, h⟩ := od_bindE h
    refine wd_virtI (q := 0) (y := y28) (as := [36893488147419103232]) rfl rfl rfl (by decide) (Nat.le_of_ble_eq_true rfl) (Nat.le_of_ble_eq_true rfl) rfl (Nat.le_of_ble_eq_true rfl) rfl (dkT_210 hT e29) (fun p30 T31 => ?_)
    obtain ⟨y32, e33, h⟩ := od_bindE h
    refine wd_virtN (q := 0) (y := y32) (as := [36893488147419103232, ev_oL2i y25, y28.1]) rfl rfl rfl (by decide) (Nat.le_of_ble_eq_true rfl) (Nat.le_of_ble_eq_true rfl) rfl (Nat.le_of_ble_eq_true rfl) rfl (dkT_222 T31 (Nat.mod_lt _ (by decide)) p30 e33) (fun T35 => ?_)
    refine wq_aload_n rfl rfl rfl ?_
    refine wq_bipush rfl rfl ?_
    refine wq_iconst rfl rfl ?_
    refine wq_iconst rfl rfl ?_
    refine wq_iconst rfl rfl ?_
    obtain ⟨y36, e37, h⟩ := od_bindE h
    refine wd_virtN (q := 0) (y := y36) (as := [36893488147419103232, 8, 0, 0, 0]) rfl rfl rfl (by decide) (Nat.le_of_ble_eq_true rfl) (Nat.le_of_ble_eq_true rfl) rfl (Nat.le_of_ble_eq_true rfl) rfl (dkT_31 T35 (by decide) (wm_zlt (by decide)) (wm_zlt (by decide)) (wm_zlt (by decide)) e37) (fun T39 => ?_)
    refine wq_aload_n rfl rfl rfl ?_
    refine wm_getI rfl (by decide) ?_
    refine wq_if_ne rfl rfl (T39.i 4 rfl) (fun h40 => ?_) (fun h40 => ?_)
    · replace h := od_neg h h40
      refine wq_iconst rfl rfl ?_
      exact wq_iret rfl (wm_zlt (by decide)) (Nat.blt_eq.mpr (by decide)) (wkOZ h T39 (by decide))
    · replace h := od_pos h h40
      refine wq_aload_n rfl rfl rfl ?_
      obtain ⟨y41, e42, h⟩ := od_bindE h
      refine wd_virtZ (q := 0) (y := y41) (as := [36893488147419103232]) rfl rfl rfl (by decide) (Nat.le_of_ble_eq_true rfl) (Nat.le_of_ble_eq_true rfl) rfl (Nat.le_of_ble_eq_true rfl) rfl (dkT_212 T39 e42) (fun p43 T44 => ?_)
      refine wq_if_eq rfl rfl (wm_zlt p43) (fun h45 => ?_) (fun h45 => ?_)
      · replace h := od_pos h h45
        refine wq_iconst rfl rfl ?_
        exact wq_iret rfl (wm_zlt (by decide)) (Nat.blt_eq.mpr (by decide)) (wkOZ h T44 (by decide))
      · replace h := od_neg h h45
        refine wq_iconst rfl rfl ?_
        refine wq_goto rfl rfl ?_
        exact wq_iret rfl (wm_zlt (by decide)) (Nat.blt_eq.mpr (by decide)) (wkOZ h T44 (by decide))
/-- X12_beginsGiven -/
def dk_244 (F : wq_F) : Option (Nat × wq_F) :=
  (dk_36 F 40).bind fun y1 =>
  if y1.1 = 0 then
    (dk_36 y1.2 123).bind fun y6 =>
    if y6.1 = 0 then
      od_g (y6.2 0 25 < 1502) <|
      if (y6.2 9 (y6.2 0 25)) = 3 then
        some (1, y6.2)
      else
        some (0, y6.2)
    else
      some (1, y6.2)
  else
    some (1, y1.2)
theorem dkT_244 {d : Nat} {F : wq_F} (hT : wm_T F) {x : Nat × wq_F} (h : dk_244 F = some x) : mq (d + 1 + 1) 244 [36893488147419103232] wm_sh F (wkZ wm_T wm_sh x) := by
  have e : ev_ent [36893488147419103232] = [36893488147419103232] := by
    rfl
  refine mq_of (maxL := 1) (rt := (some .boolean)) (code := (ev_un al_mX12_beginsGiven.2.2.2.2)) (L := [36893488147419103232]) rfl (by rw [e]; exact Nat.le_of_ble_eq_true rfl) (by rw [e]; rfl) ?_
  unfold dk_244 at h
  refine wq_aload_n rfl rfl rfl ?_
  refine wq_bipush rfl rfl ?_
  obtain ⟨y1, e2, h⟩ := od_bindE h
  refine wd_virtZ (q := 0) (y := y1) (as := [36893488147419103232, 40]) rfl rfl rfl (by decide) (Nat.le_of_ble_eq_true rfl) (Nat.le_of_ble_eq_true rfl) rfl (Nat.le_of_ble_eq_true rfl) rfl (dkT_36 hT (by decide) e2) (fun p3 T4 => ?_)
  refine wq_if_ne rfl rfl (wm_zlt p3) (fun h5 => ?_) (fun h5 => ?_)
  · replace h := od_neg h h5
    refine wq_iconst rfl rfl ?_
    refine wq_goto rfl rfl ?_
    exact wq_iret rfl (wm_zlt (by decide)) (Nat.blt_eq.mpr (by decide)) (wkOZ h T4 (by decide))
  · replace h := od_pos h h5
    refine wq_aload_n rfl rfl rfl ?_
    refine wq_bipush rfl rfl ?_
    obtain ⟨y6, e7, h⟩ := od_bindE h
    refine wd_virtZ (q := 0) (y := y6) (as := [36893488147419103232, 123]) rfl rfl rfl (by decide) (Nat.le_of_ble_eq_true rfl) (Nat.le_of_ble_eq_true rfl) rfl (Nat.le_of_ble_eq_true rfl) rfl (dkT_36 T4 (by decide) e7) (fun p8 T9 => ?_)
    refine wq_if_ne rfl rfl (wm_zlt p8) (fun h10 => ?_) (fun h10 => ?_)
    · replace h := od_neg h h10
      refine wq_iconst rfl rfl ?_
      refine wq_goto rfl rfl ?_
      exact wq_iret rfl (wm_zlt (by decide)) (Nat.blt_eq.mpr (by decide)) (wkOZ h T9 (by decide))
    · replace h := od_pos h h10
      refine wq_aload_n rfl rfl rfl ?_
      refine wm_getR (v := 36893488147419103241) rfl (by decide) (T9.r 21 8 rfl) ?_
      refine wq_aload_n rfl rfl rfl ?_
      refine wm_getI rfl (by decide) ?_
      obtain ⟨g11, h⟩ := od_gE h
      refine wq_iaload (q := 9) (n := 1502) rfl rfl (by decide) g11 (by decide) ?_
      refine wq_iconst rfl rfl ?_
      refine wq_ic_ne rfl rfl (T9.ai (k := 9) rfl g11) (by decide) (fun h12 => ?_) (fun h12 => ?_)
      · replace h := od_neg h h12
        refine wq_iconst rfl rfl ?_
        exact wq_iret rfl (wm_zlt (by decide)) (Nat.blt_eq.mpr (by decide)) (wkOZ h T9 (by decide))
      · replace h := od_pos h h12
        refine wq_iconst rfl rfl ?_
        refine wq_goto rfl rfl ?_
        exact wq_iret rfl (wm_zlt (by decide)) (Nat.blt_eq.mpr (by decide)) (wkOZ h T9 (by decide))
/-- X12_given -/
def dk_246 (F : wq_F) : Option (Nat × wq_F) :=
  (dk_215 F).bind fun y1 =>
  (dk_31 y1.2 8 0 0 0).bind fun y5 =>
  (dk_31 y5.2 13 y1.1 0 0).bind fun y9 =>
  (dk_36 y9.2 123).bind fun y13 =>
  if y13.1 = 0 then
    od_g (y13.2 0 25 < 1502) <|
    if (y13.2 9 (y13.2 0 25)) = 3 then
      od_g (y13.2 0 25 < 1502) <|
      od_let (18446744073709551616 + y13.2 11 (y13.2 0 25)) fun y52 =>
      (dk_237 y13.2 5 (ev_oL2i y52)).bind fun y55 =>
      some (y55.1, y55.2)
    else
      (dk_31 y13.2 12 0 0 0).bind fun y20 =>
      (dk_212 y20.2).bind fun y24 =>
      if y24.1 = 0 then
        some (0, y24.2)
      else
        (dk_36 y24.2 41).bind fun y29 =>
        if y29.1 = 0 then
          (dk_217 y29.2).bind fun y34 =>
          if y34.1 = 0 then
            (dk_211 y34.2).bind fun y47 =>
            some (y47.1, y47.2)
          else
            (dk_31 y34.2 14 0 0 0).bind fun y39 =>
            (dk_31 y39.2 3 0 0 0).bind fun y43 =>
            some (1, y43.2)
        else
          some (1, y29.2)
  else
    (dk_248 y13.2).bind fun y59 =>
    some (y59.1, y59.2)
theorem dkT_246 {d : Nat} {F : wq_F} (hT : wm_T F) {x : Nat × wq_F} (h : dk_246 F = some x) : mq (d + 3 + 1) 246 [36893488147419103232] wm_sh F (wkZ wm_T wm_sh x) := by
  have e : ev_ent [36893488147419103232] = [36893488147419103232] := by
    rfl
  refine mq_of (maxL := 2) (rt := (some .boolean)) (code := (ev_un al_mX12_given.2.2.2.2)) (L := [36893488147419103232, 73786976294838206464]) rfl (by rw [e]; exact Nat.le_of_ble_eq_true rfl) (by rw [e]; rfl) ?_
  unfold dk_246 at h
  refine wq_aload_n rfl rfl rfl ?_
  obtain ⟨y1, e2, h⟩ := od_bindE h
  refine wd_virtI (q := 0) (y := y1) (as := [36893488147419103232]) rfl rfl rfl (by decide) (Nat.le_of_ble_eq_true rfl) (Nat.le_of_ble_eq_true rfl) rfl (Nat.le_of_ble_eq_true rfl) rfl (dkT_215 hT e2) (fun p3 T4 => ?_)
  refine wq_istore_n rfl p3 (Nat.le_of_ble_eq_true rfl) (Or.inr ⟨_, rfl, rfl⟩) (L' := [36893488147419103232, y1.1]) rfl ?_
  refine wq_aload_n rfl rfl rfl ?_
  refine wq_bipush rfl rfl ?_
  refine wq_iconst rfl rfl ?_
  refine wq_iconst rfl rfl ?_
  refine wq_iconst rfl rfl ?_
  obtain ⟨y5, e6, h⟩ := od_bindE h
  refine wd_virtN (q := 0) (y := y5) (as := [36893488147419103232, 8, 0, 0, 0]) rfl rfl rfl (by decide) (Nat.le_of_ble_eq_true rfl) (Nat.le_of_ble_eq_true rfl) rfl (Nat.le_of_ble_eq_true rfl) rfl (dkT_31 T4 (by decide) (wm_zlt (by decide)) (wm_zlt (by decide)) (wm_zlt (by decide)) e6) (fun T8 => ?_)
  refine wq_aload_n rfl rfl rfl ?_
  refine wq_bipush rfl rfl ?_
  refine wq_iload_n rfl rfl p3 ?_
  refine wq_iconst rfl rfl ?_
  refine wq_iconst rfl rfl ?_
  obtain ⟨y9, e10, h⟩ := od_bindE h
  refine wd_virtN (q := 0) (y := y9) (as := [36893488147419103232, 13, y1.1, 0, 0]) rfl rfl rfl (by decide) (Nat.le_of_ble_eq_true rfl) (Nat.le_of_ble_eq_true rfl) rfl (Nat.le_of_ble_eq_true rfl) rfl (dkT_31 T8 (by decide) p3 (wm_zlt (by decide)) (wm_zlt (by decide)) e10) (fun T12 => ?_)
  refine wq_aload_n rfl rfl rfl ?_
  refine wq_bipush rfl rfl ?_
  obtain ⟨y13, e14, h⟩ := od_bindE h
  refine wd_virtZ (q := 0) (y := y13) (as := [36893488147419103232, 123]) rfl rfl rfl (by decide) (Nat.le_of_ble_eq_true rfl) (Nat.le_of_ble_eq_true rfl) rfl (Nat.le_of_ble_eq_true rfl) rfl (dkT_36 T12 (by decide) e14) (fun p15 T16 => ?_)
  refine wq_if_eq rfl rfl (wm_zlt p15) (fun h17 => ?_) (fun h17 => ?_)
  · replace h := od_pos h h17
    refine wq_aload_n rfl rfl rfl ?_
    refine wm_getR (v := 36893488147419103241) rfl (by decide) (T16.r 21 8 rfl) ?_
    refine wq_aload_n rfl rfl rfl ?_
    refine wm_getI rfl (by decide) ?_
    obtain ⟨g18, h⟩ := od_gE h
    refine wq_iaload (q := 9) (n := 1502) rfl rfl (by decide) g18 (by decide) ?_
    refine wq_iconst rfl rfl ?_
    refine wq_ic_ne rfl rfl (T16.ai (k := 9) rfl g18) (by decide) (fun h19 => ?_) (fun h19 => ?_)
    · replace h := od_neg h h19
      refine wq_aload_n rfl rfl rfl ?_
      refine wq_bipush rfl rfl ?_
      refine wq_iconst rfl rfl ?_
      refine wq_iconst rfl rfl ?_
      refine wq_iconst rfl rfl ?_
      obtain ⟨y20, e21, h⟩ := od_bindE h
      refine wd_virtN (q := 0) (y := y20) (as := [36893488147419103232, 12, 0, 0, 0]) rfl rfl rfl (by decide) (Nat.le_of_ble_eq_true rfl) (Nat.le_of_ble_eq_true rfl) rfl (Nat.le_of_ble_eq_true rfl) rfl (dkT_31 T16 (by decide) (wm_zlt (by decide)) (wm_zlt (by decide)) (wm_zlt (by decide)) e21) (fun T23 => ?_)
      refine wq_aload_n rfl rfl rfl ?_
      obtain ⟨y24, e25, h⟩ := od_bindE h
      refine wd_virtZ (q := 0) (y := y24) (as := [36893488147419103232]) rfl rfl rfl (by decide) (Nat.le_of_ble_eq_true rfl) (Nat.le_of_ble_eq_true rfl) rfl (Nat.le_of_ble_eq_true rfl) rfl (dkT_212 T23 e25) (fun p26 T27 => ?_)
      refine wq_if_ne rfl rfl (wm_zlt p26) (fun h28 => ?_) (fun h28 => ?_)
      · replace h := od_neg h h28
        refine wq_aload_n rfl rfl rfl ?_
        refine wq_bipush rfl rfl ?_
        obtain ⟨y29, e30, h⟩ := od_bindE h
        refine wd_virtZ (q := 0) (y := y29) (as := [36893488147419103232, 41]) rfl rfl rfl (by decide) (Nat.le_of_ble_eq_true rfl) (Nat.le_of_ble_eq_true rfl) rfl (Nat.le_of_ble_eq_true rfl) rfl (dkT_36 T27 (by decide) e30) (fun p31 T32 => ?_)
        refine wq_if_eq rfl rfl (wm_zlt p31) (fun h33 => ?_) (fun h33 => ?_)
        · replace h := od_pos h h33
          refine wq_aload_n rfl rfl rfl ?_
          obtain ⟨y34, e35, h⟩ := od_bindE h
          refine wd_virtZ (q := 0) (y := y34) (as := [36893488147419103232]) rfl rfl rfl (by decide) (Nat.le_of_ble_eq_true rfl) (Nat.le_of_ble_eq_true rfl) rfl (Nat.le_of_ble_eq_true rfl) rfl (dkT_217 T32 e35) (fun p36 T37 => ?_)
          refine wq_if_ne rfl rfl (wm_zlt p36) (fun h38 => ?_) (fun h38 => ?_)
          · replace h := od_neg h h38
            refine wq_aload_n rfl rfl rfl ?_
            refine wq_bipush rfl rfl ?_
            refine wq_iconst rfl rfl ?_
            refine wq_iconst rfl rfl ?_
            refine wq_iconst rfl rfl ?_
            obtain ⟨y39, e40, h⟩ := od_bindE h
            refine wd_virtN (q := 0) (y := y39) (as := [36893488147419103232, 14, 0, 0, 0]) rfl rfl rfl (by decide) (Nat.le_of_ble_eq_true rfl) (Nat.le_of_ble_eq_true rfl) rfl (Nat.le_of_ble_eq_true rfl) rfl (dkT_31 T37 (by decide) (wm_zlt (by decide)) (wm_zlt (by decide)) (wm_zlt (by decide)) e40) (fun T42 => ?_)
            refine wq_aload_n rfl rfl rfl ?_
            refine wq_iconst rfl rfl ?_
            refine wq_iconst rfl rfl ?_
            refine wq_iconst rfl rfl ?_
            refine wq_iconst rfl rfl ?_
            obtain ⟨y43, e44, h⟩ := od_bindE h
            refine wd_virtN (q := 0) (y := y43) (as := [36893488147419103232, 3, 0, 0, 0]) rfl rfl rfl (by decide) (Nat.le_of_ble_eq_true rfl) (Nat.le_of_ble_eq_true rfl) rfl (Nat.le_of_ble_eq_true rfl) rfl (dkT_31 T42 (by decide) (wm_zlt (by decide)) (wm_zlt (by decide)) (wm_zlt (by decide)) e44) (fun T46 => ?_)
            refine wq_iconst rfl rfl ?_
            exact wq_iret rfl (wm_zlt (by decide)) (Nat.blt_eq.mpr (by decide)) (wkOZ h T46 (by decide))
          · replace h := od_pos h h38
            refine wq_aload_n rfl rfl rfl ?_
            obtain ⟨y47, e48, h⟩ := od_bindE h
            refine wd_virtZ (q := 0) (y := y47) (as := [36893488147419103232]) rfl rfl rfl (by decide) (Nat.le_of_ble_eq_true rfl) (Nat.le_of_ble_eq_true rfl) rfl (Nat.le_of_ble_eq_true rfl) rfl (dkT_211 T37 e48) (fun p49 T50 => ?_)
            exact wq_iret rfl (wm_zlt p49) (Nat.blt_eq.mpr p49) (wkOZ h T50 p49)
        · replace h := od_neg h h33
          refine wq_iconst rfl rfl ?_
          exact wq_iret rfl (wm_zlt (by decide)) (Nat.blt_eq.mpr (by decide)) (wkOZ h T32 (by decide))
      · replace h := od_pos h h28
        refine wq_iconst rfl rfl ?_
        exact wq_iret rfl (wm_zlt (by decide)) (Nat.blt_eq.mpr (by decide)) (wkOZ h T27 (by decide))
    · replace h := od_pos h h19
      refine wq_aload_n rfl rfl rfl ?_
      refine wq_iconst rfl rfl ?_
      refine wq_aload_n rfl rfl rfl ?_
      refine wm_getR (v := 36893488147419103243) rfl (by decide) (T16.r 23 10 rfl) ?_
      refine wq_aload_n rfl rfl rfl ?_
      refine wm_getI rfl (by decide) ?_
      obtain ⟨g51, h⟩ := od_gE h
      refine wq_laload (q := 11) (n := 1502) rfl rfl (by decide) g51 (by decide) ?_
      obtain ⟨y52, e53, h⟩ := od_letE h
      refine wq_top e53.symm ?_
      have p54 : ev_isL y52 = true := wd_ge e53 (wm_al_L (T16.al (k := 11) rfl g51))
      refine wq_l2i rfl p54 ?_
      obtain ⟨y55, e56, h⟩ := od_bindE h
      refine wd_virtZ (q := 0) (y := y55) (as := [36893488147419103232, 5, ev_oL2i y52]) rfl rfl rfl (by decide) (Nat.le_of_ble_eq_true rfl) (Nat.le_of_ble_eq_true rfl) rfl (Nat.le_of_ble_eq_true rfl) rfl (dkT_237 T16 (by decide) (Nat.mod_lt _ (by decide)) e56) (fun p57 T58 => ?_)
      exact wq_iret rfl (wm_zlt p57) (Nat.blt_eq.mpr p57) (wkOZ h T58 p57)
  · replace h := od_neg h h17
    refine wq_aload_n rfl rfl rfl ?_
    obtain ⟨y59, e60, h⟩ := od_bindE h
    refine wd_virtZ (q := 0) (y := y59) (as := [36893488147419103232]) rfl rfl rfl (by decide) (Nat.le_of_ble_eq_true rfl) (Nat.le_of_ble_eq_true rfl) rfl (Nat.le_of_ble_eq_true rfl) rfl (dkT_248 T16 e60) (fun p61 T62 => ?_)
    exact wq_iret rfl (wm_zlt p61) (Nat.blt_eq.mpr p61) (wkOZ h T62 p61)
/-- X12_suffix -/
def dk_245 (F : wq_F) : Option (Nat × wq_F) :=
  (dk_215 F).bind fun y1 =>
  (dk_36 y1.2 46).bind fun y5 =>
  if y5.1 = 0 then
    (dk_36 y5.2 91).bind fun y10 =>
    if y10.1 = 0 then
      (dk_36 y10.2 58).bind fun y15 =>
      if y15.1 = 0 then
        (dk_244 y15.2).bind fun y20 =>
        if y20.1 = 0 then
          some (1, y20.2)
        else
          (dk_223 y20.2).bind fun y25 =>
          (dk_30 y25.2 14 0 0 0).bind fun y29 =>
          (dk_246 y29.2).bind fun y33 =>
          some (y33.1, y33.2)
      else
        (dk_223 y15.2).bind fun y37 =>
        (dk_212 y37.2).bind fun y41 =>
        if y41.1 = 0 then
          some (0, y41.2)
        else
          od_g (y41.2 0 25 < 1502) <|
          if (y41.2 9 (y41.2 0 25)) = 1 then
            (dk_30 y41.2 45 0 0 0).bind fun y48 =>
            od_g (y48.2 0 25 < 1502) <|
            od_let (18446744073709551616 + y48.2 11 (y48.2 0 25)) fun y53 =>
            (dk_30 y48.2 5 (ev_oL2i y53) 0 0).bind fun y56 =>
            (dk_30 y56.2 12 0 0 y1.1).bind fun y60 =>
            (dk_30 y60.2 46 0 0 0).bind fun y64 =>
            (dk_30 y64.2 15 0 0 0).bind fun y68 =>
            (dk_212 y68.2).bind fun y72 =>
            if y72.1 = 0 then
              some (0, y72.2)
            else
              (dk_244 y72.2).bind fun y77 =>
              if y77.1 = 0 then
                (dk_211 y77.2).bind fun y82 =>
                some (y82.1, y82.2)
              else
                (dk_246 y77.2).bind fun y86 =>
                some (y86.1, y86.2)
          else
            (dk_211 y41.2).bind fun y90 =>
            some (y90.1, y90.2)
    else
      (dk_223 y10.2).bind fun y94 =>
      (dk_31 y94.2 10 y1.1 0 0).bind fun y98 =>
      (dk_31 y98.2 3 0 0 0).bind fun y102 =>
      (dk_212 y102.2).bind fun y106 =>
      some (y106.1, y106.2)
  else
    (dk_223 y5.2).bind fun y110 =>
    (dk_212 y110.2).bind fun y114 =>
    if y114.1 = 0 then
      some (0, y114.2)
    else
      od_g (y114.2 0 25 < 1502) <|
      if (y114.2 9 (y114.2 0 25)) = 1 then
        od_g (y114.2 0 25 < 1502) <|
        od_let (18446744073709551616 + y114.2 11 (y114.2 0 25)) fun y122 =>
        (dk_30 y114.2 5 (ev_oL2i y122) 0 0).bind fun y125 =>
        od_up y125.2 0 61 3 fun F129 =>
        od_up F129 0 63 y1.1 fun F132 =>
        (dk_31 F132 8 0 0 0).bind fun y135 =>
        (dk_212 y135.2).bind fun y139 =>
        some (y139.1, y139.2)
      else
        (dk_211 y114.2).bind fun y143 =>
        some (y143.1, y143.2)
theorem dkT_245 {d : Nat} {F : wq_F} (hT : wm_T F) {x : Nat × wq_F} (h : dk_245 F = some x) : mq (d + 4 + 1) 245 [36893488147419103232] wm_sh F (wkZ wm_T wm_sh x) := by
  have e : ev_ent [36893488147419103232] = [36893488147419103232] := by
    rfl
  refine mq_of (maxL := 3) (rt := (some .boolean)) (code := (ev_un al_mX12_suffix.2.2.2.2)) (L := [36893488147419103232, 73786976294838206464, 73786976294838206464]) rfl (by rw [e]; exact Nat.le_of_ble_eq_true rfl) (by rw [e]; rfl) ?_
  unfold dk_245 at h
  refine wq_aload_n rfl rfl rfl ?_
  obtain ⟨y1, e2, h⟩ := od_bindE h
  refine wd_virtI (q := 0) (y := y1) (as := [36893488147419103232]) rfl rfl rfl (by decide) (Nat.le_of_ble_eq_true rfl) (Nat.le_of_ble_eq_true rfl) rfl (Nat.le_of_ble_eq_true rfl) rfl (dkT_215 hT e2) (fun p3 T4 => ?_)
  refine wq_istore_n rfl p3 (Nat.le_of_ble_eq_true rfl) (Or.inr ⟨_, rfl, rfl⟩) (L' := [36893488147419103232, y1.1, 73786976294838206464]) rfl ?_
  refine wq_aload_n rfl rfl rfl ?_
  refine wq_bipush rfl rfl ?_
  obtain ⟨y5, e6, h⟩ := od_bindE h
  refine wd_virtZ (q := 0) (y := y5) (as := [36893488147419103232, 46]) rfl rfl rfl (by decide) (Nat.le_of_ble_eq_true rfl) (Nat.le_of_ble_eq_true rfl) rfl (Nat.le_of_ble_eq_true rfl) rfl (dkT_36 T4 (by decide) e6) (fun p7 T8 => ?_)
  refine wq_if_eq rfl rfl (wm_zlt p7) (fun h9 => ?_) (fun h9 => ?_)
  · replace h := od_pos h h9
    refine wq_aload_n rfl rfl rfl ?_
    refine wq_bipush rfl rfl ?_
    obtain ⟨y10, e11, h⟩ := od_bindE h
    refine wd_virtZ (q := 0) (y := y10) (as := [36893488147419103232, 91]) rfl rfl rfl (by decide) (Nat.le_of_ble_eq_true rfl) (Nat.le_of_ble_eq_true rfl) rfl (Nat.le_of_ble_eq_true rfl) rfl (dkT_36 T8 (by decide) e11) (fun p12 T13 => ?_)
    refine wq_if_eq rfl rfl (wm_zlt p12) (fun h14 => ?_) (fun h14 => ?_)
    · replace h := od_pos h h14
      refine wq_aload_n rfl rfl rfl ?_
      refine wq_bipush rfl rfl ?_
      obtain ⟨y15, e16, h⟩ := od_bindE h
      refine wd_virtZ (q := 0) (y := y15) (as := [36893488147419103232, 58]) rfl rfl rfl (by decide) (Nat.le_of_ble_eq_true rfl) (Nat.le_of_ble_eq_true rfl) rfl (Nat.le_of_ble_eq_true rfl) rfl (dkT_36 T13 (by decide) e16) (fun p17 T18 => ?_)
      refine wq_if_eq rfl rfl (wm_zlt p17) (fun h19 => ?_) (fun h19 => ?_)
      · replace h := od_pos h h19
        refine wq_aload_n rfl rfl rfl ?_
        obtain ⟨y20, e21, h⟩ := od_bindE h
        refine wd_virtZ (q := 0) (y := y20) (as := [36893488147419103232]) rfl rfl rfl (by decide) (Nat.le_of_ble_eq_true rfl) (Nat.le_of_ble_eq_true rfl) rfl (Nat.le_of_ble_eq_true rfl) rfl (dkT_244 T18 e21) (fun p22 T23 => ?_)
        refine wq_if_eq rfl rfl (wm_zlt p22) (fun h24 => ?_) (fun h24 => ?_)
        · replace h := od_pos h h24
          refine wq_iconst rfl rfl ?_
          exact wq_iret rfl (wm_zlt (by decide)) (Nat.blt_eq.mpr (by decide)) (wkOZ h T23 (by decide))
        · replace h := od_neg h h24
          refine wq_aload_n rfl rfl rfl ?_
          obtain ⟨y25, e26, h⟩ := od_bindE h
          refine wd_virtN (q := 0) (y := y25) (as := [36893488147419103232]) rfl rfl rfl (by decide) (Nat.le_of_ble_eq_true rfl) (Nat.le_of_ble_eq_true rfl) rfl (Nat.le_of_ble_eq_true rfl) rfl (dkT_223 T23 e26) (fun T28 => ?_)
          refine wq_aload_n rfl rfl rfl ?_
          refine wq_bipush rfl rfl ?_
          refine wq_iconst rfl rfl ?_
          refine wq_iconst rfl rfl ?_
          refine wq_iconst rfl rfl ?_
          obtain ⟨y29, e30, h⟩ := od_bindE h
          refine wd_virtI (q := 0) (y := y29) (as := [36893488147419103232, 14, 0, 0, 0]) rfl rfl rfl (by decide) (Nat.le_of_ble_eq_true rfl) (Nat.le_of_ble_eq_true rfl) rfl (Nat.le_of_ble_eq_true rfl) rfl (dkT_30 T28 (by decide) (wm_zlt (by decide)) (wm_zlt (by decide)) (wm_zlt (by decide)) e30) (fun p31 T32 => ?_)
          refine wq_istore_n rfl p31 (Nat.le_of_ble_eq_true rfl) (Or.inr ⟨_, rfl, (wq_notL p3)⟩) (L' := [36893488147419103232, y1.1, y29.1]) rfl ?_
          refine wq_aload_n rfl rfl rfl ?_
          obtain ⟨y33, e34, h⟩ := od_bindE h
          refine wd_virtZ (q := 0) (y := y33) (as := [36893488147419103232]) rfl rfl rfl (by decide) (Nat.le_of_ble_eq_true rfl) (Nat.le_of_ble_eq_true rfl) rfl (Nat.le_of_ble_eq_true rfl) rfl (dkT_246 T32 e34) (fun p35 T36 => ?_)
          exact wq_iret rfl (wm_zlt p35) (Nat.blt_eq.mpr p35) (wkOZ h T36 p35)
      · replace h := od_neg h h19
        refine wq_aload_n rfl rfl rfl ?_
        obtain ⟨y37, e38, h⟩ := od_bindE h
        refine wd_virtN (q := 0) (y := y37) (as := [36893488147419103232]) rfl rfl rfl (by decide) (Nat.le_of_ble_eq_true rfl) (Nat.le_of_ble_eq_true rfl) rfl (Nat.le_of_ble_eq_true rfl) rfl (dkT_223 T18 e38) (fun T40 => ?_)
        refine wq_aload_n rfl rfl rfl ?_
        obtain ⟨y41, e42, h⟩ := od_bindE h
        refine wd_virtZ (q := 0) (y := y41) (as := [36893488147419103232]) rfl rfl rfl (by decide) (Nat.le_of_ble_eq_true rfl) (Nat.le_of_ble_eq_true rfl) rfl (Nat.le_of_ble_eq_true rfl) rfl (dkT_212 T40 e42) (fun p43 T44 => ?_)
        refine wq_if_ne rfl rfl (wm_zlt p43) (fun h45 => ?_) (fun h45 => ?_)
        · replace h := od_neg h h45
          refine wq_aload_n rfl rfl rfl ?_
          refine wm_getR (v := 36893488147419103241) rfl (by decide) (T44.r 21 8 rfl) ?_
          refine wq_aload_n rfl rfl rfl ?_
          refine wm_getI rfl (by decide) ?_
          obtain ⟨g46, h⟩ := od_gE h
          refine wq_iaload (q := 9) (n := 1502) rfl rfl (by decide) g46 (by decide) ?_
          refine wq_iconst rfl rfl ?_
          refine wq_ic_eq rfl rfl (T44.ai (k := 9) rfl g46) (wm_zlt (by decide)) (fun h47 => ?_) (fun h47 => ?_)
          · replace h := od_pos h h47
            refine wq_aload_n rfl rfl rfl ?_
            refine wq_bipush rfl rfl ?_
            refine wq_iconst rfl rfl ?_
            refine wq_iconst rfl rfl ?_
            refine wq_iconst rfl rfl ?_
            obtain ⟨y48, e49, h⟩ := od_bindE h
            refine wd_virtI (q := 0) (y := y48) (as := [36893488147419103232, 45, 0, 0, 0]) rfl rfl rfl (by decide) (Nat.le_of_ble_eq_true rfl) (Nat.le_of_ble_eq_true rfl) rfl (Nat.le_of_ble_eq_true rfl) rfl (dkT_30 T44 (by decide) (wm_zlt (by decide)) (wm_zlt (by decide)) (wm_zlt (by decide)) e49) (fun p50 T51 => ?_)
            refine wq_istore_n rfl p50 (Nat.le_of_ble_eq_true rfl) (Or.inr ⟨_, rfl, (wq_notL p3)⟩) (L' := [36893488147419103232, y1.1, y48.1]) rfl ?_
            refine wq_aload_n rfl rfl rfl ?_
            refine wq_iconst rfl rfl ?_
            refine wq_aload_n rfl rfl rfl ?_
            refine wm_getR (v := 36893488147419103243) rfl (by decide) (T51.r 23 10 rfl) ?_
            refine wq_aload_n rfl rfl rfl ?_
            refine wm_getI rfl (by decide) ?_
            obtain ⟨g52, h⟩ := od_gE h
            refine wq_laload (q := 11) (n := 1502) rfl rfl (by decide) g52 (by decide) ?_
            obtain ⟨y53, e54, h⟩ := od_letE h
            refine wq_top e54.symm ?_
            have p55 : ev_isL y53 = true := wd_ge e54 (wm_al_L (T51.al (k := 11) rfl g52))
            refine wq_l2i rfl p55 ?_
            refine wq_iconst rfl rfl ?_
            refine wq_iconst rfl rfl ?_
            obtain ⟨y56, e57, h⟩ := od_bindE h
            refine wd_virtI (q := 0) (y := y56) (as := [36893488147419103232, 5, ev_oL2i y53, 0, 0]) rfl rfl rfl (by decide) (Nat.le_of_ble_eq_true rfl) (Nat.le_of_ble_eq_true rfl) rfl (Nat.le_of_ble_eq_true rfl) rfl (dkT_30 T51 (by decide) (Nat.mod_lt _ (by decide)) (wm_zlt (by decide)) (wm_zlt (by decide)) e57) (fun p58 T59 => ?_)
            refine wq_istore_n rfl p58 (Nat.le_of_ble_eq_true rfl) (Or.inr ⟨_, rfl, (wq_notL p3)⟩) (L' := [36893488147419103232, y1.1, y56.1]) rfl ?_
            refine wq_aload_n rfl rfl rfl ?_
            refine wq_bipush rfl rfl ?_
            refine wq_iconst rfl rfl ?_
            refine wq_iconst rfl rfl ?_
            refine wq_iload_n rfl rfl p3 ?_
            obtain ⟨y60, e61, h⟩ := od_bindE h
            refine wd_virtI (q := 0) (y := y60) (as := [36893488147419103232, 12, 0, 0, y1.1]) rfl rfl rfl (by decide) (Nat.le_of_ble_eq_true rfl) (Nat.le_of_ble_eq_true rfl) rfl (Nat.le_of_ble_eq_true rfl) rfl (dkT_30 T59 (by decide) (wm_zlt (by decide)) (wm_zlt (by decide)) p3 e61) (fun p62 T63 => ?_)
            refine wq_istore_n rfl p62 (Nat.le_of_ble_eq_true rfl) (Or.inr ⟨_, rfl, (wq_notL p3)⟩) (L' := [36893488147419103232, y1.1, y60.1]) rfl ?_
            refine wq_aload_n rfl rfl rfl ?_
            refine wq_bipush rfl rfl ?_
            refine wq_iconst rfl rfl ?_
            refine wq_iconst rfl rfl ?_
            refine wq_iconst rfl rfl ?_
            obtain ⟨y64, e65, h⟩ := od_bindE h
            refine wd_virtI (q := 0) (y := y64) (as := [36893488147419103232, 46, 0, 0, 0]) rfl rfl rfl (by decide) (Nat.le_of_ble_eq_true rfl) (Nat.le_of_ble_eq_true rfl) rfl (Nat.le_of_ble_eq_true rfl) rfl (dkT_30 T63 (by decide) (wm_zlt (by decide)) (wm_zlt (by decide)) (wm_zlt (by decide)) e65) (fun p66 T67 => ?_)
            refine wq_istore_n rfl p66 (Nat.le_of_ble_eq_true rfl) (Or.inr ⟨_, rfl, (wq_notL p3)⟩) (L' := [36893488147419103232, y1.1, y64.1]) rfl ?_
            refine wq_aload_n rfl rfl rfl ?_
            refine wq_bipush rfl rfl ?_
            refine wq_iconst rfl rfl ?_
            refine wq_iconst rfl rfl ?_
            refine wq_iconst rfl rfl ?_
            obtain ⟨y68, e69, h⟩ := od_bindE h
            refine wd_virtI (q := 0) (y := y68) (as := [36893488147419103232, 15, 0, 0, 0]) rfl rfl rfl (by decide) (Nat.le_of_ble_eq_true rfl) (Nat.le_of_ble_eq_true rfl) rfl (Nat.le_of_ble_eq_true rfl) rfl (dkT_30 T67 (by decide) (wm_zlt (by decide)) (wm_zlt (by decide)) (wm_zlt (by decide)) e69) (fun p70 T71 => ?_)
            refine wq_istore_n rfl p70 (Nat.le_of_ble_eq_true rfl) (Or.inr ⟨_, rfl, (wq_notL p3)⟩) (L' := [36893488147419103232, y1.1, y68.1]) rfl ?_
            refine wq_aload_n rfl rfl rfl ?_
            obtain ⟨y72, e73, h⟩ := od_bindE h
            refine wd_virtZ (q := 0) (y := y72) (as := [36893488147419103232]) rfl rfl rfl (by decide) (Nat.le_of_ble_eq_true rfl) (Nat.le_of_ble_eq_true rfl) rfl (Nat.le_of_ble_eq_true rfl) rfl (dkT_212 T71 e73) (fun p74 T75 => ?_)
            refine wq_if_ne rfl rfl (wm_zlt p74) (fun h76 => ?_) (fun h76 => ?_)
            · replace h := od_neg h h76
              refine wq_aload_n rfl rfl rfl ?_
              obtain ⟨y77, e78, h⟩ := od_bindE h
              refine wd_virtZ (q := 0) (y := y77) (as := [36893488147419103232]) rfl rfl rfl (by decide) (Nat.le_of_ble_eq_true rfl) (Nat.le_of_ble_eq_true rfl) rfl (Nat.le_of_ble_eq_true rfl) rfl (dkT_244 T75 e78) (fun p79 T80 => ?_)
              refine wq_if_eq rfl rfl (wm_zlt p79) (fun h81 => ?_) (fun h81 => ?_)
              · replace h := od_pos h h81
                refine wq_aload_n rfl rfl rfl ?_
                obtain ⟨y82, e83, h⟩ := od_bindE h
                refine wd_virtZ (q := 0) (y := y82) (as := [36893488147419103232]) rfl rfl rfl (by decide) (Nat.le_of_ble_eq_true rfl) (Nat.le_of_ble_eq_true rfl) rfl (Nat.le_of_ble_eq_true rfl) rfl (dkT_211 T80 e83) (fun p84 T85 => ?_)
                exact wq_iret rfl (wm_zlt p84) (Nat.blt_eq.mpr p84) (wkOZ h T85 p84)
              · replace h := od_neg h h81
                refine wq_aload_n rfl rfl rfl ?_
                obtain ⟨y86, e87, h⟩ := od_bindE h
                refine wd_virtZ (q := 0) (y := y86) (as := [36893488147419103232]) rfl rfl rfl (by decide) (Nat.le_of_ble_eq_true rfl) (Nat.le_of_ble_eq_true rfl) rfl (Nat.le_of_ble_eq_true rfl) rfl (dkT_246 T80 e87) (fun p88 T89 => ?_)
                refine wq_goto rfl rfl ?_
                exact wq_iret rfl (wm_zlt p88) (Nat.blt_eq.mpr p88) (wkOZ h T89 p88)
            · replace h := od_pos h h76
              refine wq_iconst rfl rfl ?_
              exact wq_iret rfl (wm_zlt (by decide)) (Nat.blt_eq.mpr (by decide)) (wkOZ h T75 (by decide))
          · replace h := od_neg h h47
            refine wq_aload_n rfl rfl rfl ?_
            obtain ⟨y90, e91, h⟩ := od_bindE h
            refine wd_virtZ (q := 0) (y := y90) (as := [36893488147419103232]) rfl rfl rfl (by decide) (Nat.le_of_ble_eq_true rfl) (Nat.le_of_ble_eq_true rfl) rfl (Nat.le_of_ble_eq_true rfl) rfl (dkT_211 T44 e91) (fun p92 T93 => ?_)
            exact wq_iret rfl (wm_zlt p92) (Nat.blt_eq.mpr p92) (wkOZ h T93 p92)
        · replace h := od_pos h h45
          refine wq_iconst rfl rfl ?_
          exact wq_iret rfl (wm_zlt (by decide)) (Nat.blt_eq.mpr (by decide)) (wkOZ h T44 (by decide))
    · replace h := od_neg h h14
      refine wq_aload_n rfl rfl rfl ?_
      obtain ⟨y94, e95, h⟩ := od_bindE h
      refine wd_virtN (q := 0) (y := y94) (as := [36893488147419103232]) rfl rfl rfl (by decide) (Nat.le_of_ble_eq_true rfl) (Nat.le_of_ble_eq_true rfl) rfl (Nat.le_of_ble_eq_true rfl) rfl (dkT_223 T13 e95) (fun T97 => ?_)
      refine wq_aload_n rfl rfl rfl ?_
      refine wq_bipush rfl rfl ?_
      refine wq_iload_n rfl rfl p3 ?_
      refine wq_iconst rfl rfl ?_
      refine wq_iconst rfl rfl ?_
      obtain ⟨y98, e99, h⟩ := od_bindE h
      refine wd_virtN (q := 0) (y := y98) (as := [36893488147419103232, 10, y1.1, 0, 0]) rfl rfl rfl (by decide) (Nat.le_of_ble_eq_true rfl) (Nat.le_of_ble_eq_true rfl) rfl (Nat.le_of_ble_eq_true rfl) rfl (dkT_31 T97 (by decide) p3 (wm_zlt (by decide)) (wm_zlt (by decide)) e99) (fun T101 => ?_)
      refine wq_aload_n rfl rfl rfl ?_
      refine wq_iconst rfl rfl ?_
      refine wq_iconst rfl rfl ?_
      refine wq_iconst rfl rfl ?_
      refine wq_iconst rfl rfl ?_
      obtain ⟨y102, e103, h⟩ := od_bindE h
      refine wd_virtN (q := 0) (y := y102) (as := [36893488147419103232, 3, 0, 0, 0]) rfl rfl rfl (by decide) (Nat.le_of_ble_eq_true rfl) (Nat.le_of_ble_eq_true rfl) rfl (Nat.le_of_ble_eq_true rfl) rfl (dkT_31 T101 (by decide) (wm_zlt (by decide)) (wm_zlt (by decide)) (wm_zlt (by decide)) e103) (fun T105 => ?_)
      refine wq_aload_n rfl rfl rfl ?_
      obtain ⟨y106, e107, h⟩ := od_bindE h
      refine wd_virtZ (q := 0) (y := y106) (as := [36893488147419103232]) rfl rfl rfl (by decide) (Nat.le_of_ble_eq_true rfl) (Nat.le_of_ble_eq_true rfl) rfl (Nat.le_of_ble_eq_true rfl) rfl (dkT_212 T105 e107) (fun p108 T109 => ?_)
      exact wq_iret rfl (wm_zlt p108) (Nat.blt_eq.mpr p108) (wkOZ h T109 p108)
  · replace h := od_neg h h9
    refine wq_aload_n rfl rfl rfl ?_
    obtain ⟨y110, e111, h⟩ := od_bindE h
    refine wd_virtN (q := 0) (y := y110) (as := [36893488147419103232]) rfl rfl rfl (by decide) (Nat.le_of_ble_eq_true rfl) (Nat.le_of_ble_eq_true rfl) rfl (Nat.le_of_ble_eq_true rfl) rfl (dkT_223 T8 e111) (fun T113 => ?_)
    refine wq_aload_n rfl rfl rfl ?_
    obtain ⟨y114, e115, h⟩ := od_bindE h
    refine wd_virtZ (q := 0) (y := y114) (as := [36893488147419103232]) rfl rfl rfl (by decide) (Nat.le_of_ble_eq_true rfl) (Nat.le_of_ble_eq_true rfl) rfl (Nat.le_of_ble_eq_true rfl) rfl (dkT_212 T113 e115) (fun p116 T117 => ?_)
    refine wq_if_ne rfl rfl (wm_zlt p116) (fun h118 => ?_) (fun h118 => ?_)
    · replace h := od_neg h h118
      refine wq_aload_n rfl rfl rfl ?_
      refine wm_getR (v := 36893488147419103241) rfl (by decide) (T117.r 21 8 rfl) ?_
      refine wq_aload_n rfl rfl rfl ?_
      refine wm_getI rfl (by decide) ?_
      obtain ⟨g119, h⟩ := od_gE h
      refine wq_iaload (q := 9) (n := 1502) rfl rfl (by decide) g119 (by decide) ?_
      refine wq_iconst rfl rfl ?_
      refine wq_ic_eq rfl rfl (T117.ai (k := 9) rfl g119) (wm_zlt (by decide)) (fun h120 => ?_) (fun h120 => ?_)
      · replace h := od_pos h h120
        refine wq_aload_n rfl rfl rfl ?_
        refine wq_iconst rfl rfl ?_
        refine wq_aload_n rfl rfl rfl ?_
        refine wm_getR (v := 36893488147419103243) rfl (by decide) (T117.r 23 10 rfl) ?_
        refine wq_aload_n rfl rfl rfl ?_
        refine wm_getI rfl (by decide) ?_
        obtain ⟨g121, h⟩ := od_gE h
        refine wq_laload (q := 11) (n := 1502) rfl rfl (by decide) g121 (by decide) ?_
        obtain ⟨y122, e123, h⟩ := od_letE h
        refine wq_top e123.symm ?_
        have p124 : ev_isL y122 = true := wd_ge e123 (wm_al_L (T117.al (k := 11) rfl g121))
        refine wq_l2i rfl p124 ?_
        refine wq_iconst rfl rfl ?_
        refine wq_iconst rfl rfl ?_
        obtain ⟨y125, e126, h⟩ := od_bindE h
        refine wd_virtI (q := 0) (y := y125) (as := [36893488147419103232, 5, ev_oL2i y122, 0, 0]) rfl rfl rfl (by decide) (Nat.le_of_ble_eq_true rfl) (Nat.le_of_ble_eq_true rfl) rfl (Nat.le_of_ble_eq_true rfl) rfl (dkT_30 T117 (by decide) (Nat.mod_lt _ (by decide)) (wm_zlt (by decide)) (wm_zlt (by decide)) e126) (fun p127 T128 => ?_)
        refine wq_istore_n rfl p127 (Nat.le_of_ble_eq_true rfl) (Or.inr ⟨_, rfl, (wq_notL p3)⟩) (L' := [36893488147419103232, y1.1, y125.1]) rfl ?_
        refine wq_aload_n rfl rfl rfl ?_
        refine wq_iconst rfl rfl ?_
        obtain ⟨F129, e130, h⟩ := od_upE h
        refine wmE_put rfl (by decide) (wq_I (by decide)) e130 ?_
        have T131 : wm_T F129 := wd_T e130 (T128.uf (f := 61) (c := 0) (v := 3) rfl (show 3 < 4294967296 from (by decide)))
        refine wq_aload_n rfl rfl rfl ?_
        refine wq_iload_n rfl rfl p3 ?_
        obtain ⟨F132, e133, h⟩ := od_upE h
        refine wmE_put rfl (by decide) (wq_I p3) e133 ?_
        have T134 : wm_T F132 := wd_T e133 (T131.uf (f := 63) (c := 0) (v := y1.1) rfl (show y1.1 < 4294967296 from p3))
        refine wq_aload_n rfl rfl rfl ?_
        refine wq_bipush rfl rfl ?_
        refine wq_iconst rfl rfl ?_
        refine wq_iconst rfl rfl ?_
        refine wq_iconst rfl rfl ?_
        obtain ⟨y135, e136, h⟩ := od_bindE h
        refine wd_virtN (q := 0) (y := y135) (as := [36893488147419103232, 8, 0, 0, 0]) rfl rfl rfl (by decide) (Nat.le_of_ble_eq_true rfl) (Nat.le_of_ble_eq_true rfl) rfl (Nat.le_of_ble_eq_true rfl) rfl (dkT_31 T134 (by decide) (wm_zlt (by decide)) (wm_zlt (by decide)) (wm_zlt (by decide)) e136) (fun T138 => ?_)
        refine wq_aload_n rfl rfl rfl ?_
        obtain ⟨y139, e140, h⟩ := od_bindE h
        refine wd_virtZ (q := 0) (y := y139) (as := [36893488147419103232]) rfl rfl rfl (by decide) (Nat.le_of_ble_eq_true rfl) (Nat.le_of_ble_eq_true rfl) rfl (Nat.le_of_ble_eq_true rfl) rfl (dkT_212 T138 e140) (fun p141 T142 => ?_)
        exact wq_iret rfl (wm_zlt p141) (Nat.blt_eq.mpr p141) (wkOZ h T142 p141)
      · replace h := od_neg h h120
        refine wq_aload_n rfl rfl rfl ?_
        obtain ⟨y143, e144, h⟩ := od_bindE h
        refine wd_virtZ (q := 0) (y := y143) (as := [36893488147419103232]) rfl rfl rfl (by decide) (Nat.le_of_ble_eq_true rfl) (Nat.le_of_ble_eq_true rfl) rfl (Nat.le_of_ble_eq_true rfl) rfl (dkT_211 T117 e144) (fun p145 T146 => ?_)
        exact wq_iret rfl (wm_zlt p145) (Nat.blt_eq.mpr p145) (wkOZ h T146 p145)
    · replace h := od_pos h h118
      refine wq_iconst rfl rfl ?_
      exact wq_iret rfl (wm_zlt (by decide)) (Nat.blt_eq.mpr (by decide)) (wkOZ h T117 (by decide))
/-- X12_needSign -/
def dk_213 (F : wq_F) (a0 : Nat) : Option (Nat × wq_F) :=
  (dk_36 F a0).bind fun y1 =>
  if y1.1 = 0 then
    (dk_211 y1.2).bind fun y6 =>
    some (y6.1, y6.2)
  else
    (dk_212 y1.2).bind fun y10 =>
    some (y10.1, y10.2)
theorem dkT_213 {d : Nat} {F : wq_F} (hT : wm_T F) {a0 : Nat} (ha0 : a0 < 4294967296) {x : Nat × wq_F} (h : dk_213 F a0 = some x) : mq (d + 2 + 1) 213 [36893488147419103232, a0] wm_sh F (wkZ wm_T wm_sh x) := by
  have e : ev_ent [36893488147419103232, a0] = [36893488147419103232, a0] := by
    show 36893488147419103232 :: ev_ent [a0] = _
    rw [wm_entI ha0]
    rfl
  refine mq_of (maxL := 2) (rt := (some .boolean)) (code := (ev_un al_mX12_needSign.2.2.2.2)) (L := [36893488147419103232, a0]) rfl (by rw [e]; exact Nat.le_of_ble_eq_true rfl) (by rw [e]; rfl) ?_
  unfold dk_213 at h
  refine wq_aload_n rfl rfl rfl ?_
  refine wq_iload_n rfl rfl ha0 ?_
  obtain ⟨y1, e2, h⟩ := od_bindE h
  refine wd_virtZ (q := 0) (y := y1) (as := [36893488147419103232, a0]) rfl rfl rfl (by decide) (Nat.le_of_ble_eq_true rfl) (Nat.le_of_ble_eq_true rfl) rfl (Nat.le_of_ble_eq_true rfl) rfl (dkT_36 hT ha0 e2) (fun p3 T4 => ?_)
  refine wq_if_eq rfl rfl (wm_zlt p3) (fun h5 => ?_) (fun h5 => ?_)
  · replace h := od_pos h h5
    refine wq_aload_n rfl rfl rfl ?_
    obtain ⟨y6, e7, h⟩ := od_bindE h
    refine wd_virtZ (q := 0) (y := y6) (as := [36893488147419103232]) rfl rfl rfl (by decide) (Nat.le_of_ble_eq_true rfl) (Nat.le_of_ble_eq_true rfl) rfl (Nat.le_of_ble_eq_true rfl) rfl (dkT_211 T4 e7) (fun p8 T9 => ?_)
    exact wq_iret rfl (wm_zlt p8) (Nat.blt_eq.mpr p8) (wkOZ h T9 p8)
  · replace h := od_neg h h5
    refine wq_aload_n rfl rfl rfl ?_
    obtain ⟨y10, e11, h⟩ := od_bindE h
    refine wd_virtZ (q := 0) (y := y10) (as := [36893488147419103232]) rfl rfl rfl (by decide) (Nat.le_of_ble_eq_true rfl) (Nat.le_of_ble_eq_true rfl) rfl (Nat.le_of_ble_eq_true rfl) rfl (dkT_212 T4 e11) (fun p12 T13 => ?_)
    refine wq_goto rfl rfl ?_
    exact wq_iret rfl (wm_zlt p12) (Nat.blt_eq.mpr p12) (wkOZ h T13 p12)
/-- X12_closeParen -/
def dk_273 (F : wq_F) : Option (Nat × wq_F) :=
  od_up F 0 61 5 fun F1 =>
  (dk_31 F1 8 0 0 0).bind fun y4 =>
  (dk_213 y4.2 41).bind fun y8 =>
  some (y8.1, y8.2)
theorem dkT_273 {d : Nat} {F : wq_F} (hT : wm_T F) {x : Nat × wq_F} (h : dk_273 F = some x) : mq (d + 3 + 1) 273 [36893488147419103232] wm_sh F (wkZ wm_T wm_sh x) := by
  have e : ev_ent [36893488147419103232] = [36893488147419103232] := by
    rfl
  refine mq_of (maxL := 1) (rt := (some .boolean)) (code := (ev_un al_mX12_closeParen.2.2.2.2)) (L := [36893488147419103232]) rfl (by rw [e]; exact Nat.le_of_ble_eq_true rfl) (by rw [e]; rfl) ?_
  unfold dk_273 at h
  refine wq_aload_n rfl rfl rfl ?_
  refine wq_iconst rfl rfl ?_
  obtain ⟨F1, e2, h⟩ := od_upE h
  refine wmE_put rfl (by decide) (wq_I (by decide)) e2 ?_
  have T3 : wm_T F1 := wd_T e2 (hT.uf (f := 61) (c := 0) (v := 5) rfl (show 5 < 4294967296 from (by decide)))
  refine wq_aload_n rfl rfl rfl ?_
  refine wq_bipush rfl rfl ?_
  refine wq_iconst rfl rfl ?_
  refine wq_iconst rfl rfl ?_
  refine wq_iconst rfl rfl ?_
  obtain ⟨y4, e5, h⟩ := od_bindE h
  refine wd_virtN (q := 0) (y := y4) (as := [36893488147419103232, 8, 0, 0, 0]) rfl rfl rfl (by decide) (Nat.le_of_ble_eq_true rfl) (Nat.le_of_ble_eq_true rfl) rfl (Nat.le_of_ble_eq_true rfl) rfl (dkT_31 T3 (by decide) (wm_zlt (by decide)) (wm_zlt (by decide)) (wm_zlt (by decide)) e5) (fun T7 => ?_)
  refine wq_aload_n rfl rfl rfl ?_
  refine wq_bipush rfl rfl ?_
  obtain ⟨y8, e9, h⟩ := od_bindE h
  refine wd_virtZ (q := 0) (y := y8) (as := [36893488147419103232, 41]) rfl rfl rfl (by decide) (Nat.le_of_ble_eq_true rfl) (Nat.le_of_ble_eq_true rfl) rfl (Nat.le_of_ble_eq_true rfl) rfl (dkT_213 T7 (by decide) e9) (fun p10 T11 => ?_)
  exact wq_iret rfl (wm_zlt p10) (Nat.blt_eq.mpr p10) (wkOZ h T11 p10)
/-- X12_closeBracket -/
def dk_274 (F : wq_F) (a0 : Nat) : Option (Nat × wq_F) :=
  od_up F 0 61 3 fun F1 =>
  od_up F1 0 63 a0 fun F4 =>
  (dk_31 F4 8 0 0 0).bind fun y7 =>
  (dk_213 y7.2 93).bind fun y11 =>
  some (y11.1, y11.2)
theorem dkT_274 {d : Nat} {F : wq_F} (hT : wm_T F) {a0 : Nat} (ha0 : a0 < 4294967296) {x : Nat × wq_F} (h : dk_274 F a0 = some x) : mq (d + 3 + 1) 274 [36893488147419103232, a0] wm_sh F (wkZ wm_T wm_sh x) := by
  have e : ev_ent [36893488147419103232, a0] = [36893488147419103232, a0] := by
    show 36893488147419103232 :: ev_ent [a0] = _
    rw [wm_entI ha0]
    rfl
  refine mq_of (maxL := 2) (rt := (some .boolean)) (code := (ev_un al_mX12_closeBracket.2.2.2.2)) (L := [36893488147419103232, a0]) rfl (by rw [e]; exact Nat.le_of_ble_eq_true rfl) (by rw [e]; rfl) ?_
  unfold dk_274 at h
  refine wq_aload_n rfl rfl rfl ?_
  refine wq_iconst rfl rfl ?_
  obtain ⟨F1, e2, h⟩ := od_upE h
  refine wmE_put rfl (by decide) (wq_I (by decide)) e2 ?_
  have T3 : wm_T F1 := wd_T e2 (hT.uf (f := 61) (c := 0) (v := 3) rfl (show 3 < 4294967296 from (by decide)))
  refine wq_aload_n rfl rfl rfl ?_
  refine wq_iload_n rfl rfl ha0 ?_
  obtain ⟨F4, e5, h⟩ := od_upE h
  refine wmE_put rfl (by decide) (wq_I ha0) e5 ?_
  have T6 : wm_T F4 := wd_T e5 (T3.uf (f := 63) (c := 0) (v := a0) rfl (show a0 < 4294967296 from ha0))
  refine wq_aload_n rfl rfl rfl ?_
  refine wq_bipush rfl rfl ?_
  refine wq_iconst rfl rfl ?_
  refine wq_iconst rfl rfl ?_
  refine wq_iconst rfl rfl ?_
  obtain ⟨y7, e8, h⟩ := od_bindE h
  refine wd_virtN (q := 0) (y := y7) (as := [36893488147419103232, 8, 0, 0, 0]) rfl rfl rfl (by decide) (Nat.le_of_ble_eq_true rfl) (Nat.le_of_ble_eq_true rfl) rfl (Nat.le_of_ble_eq_true rfl) rfl (dkT_31 T6 (by decide) (wm_zlt (by decide)) (wm_zlt (by decide)) (wm_zlt (by decide)) e8) (fun T10 => ?_)
  refine wq_aload_n rfl rfl rfl ?_
  refine wq_bipush rfl rfl ?_
  obtain ⟨y11, e12, h⟩ := od_bindE h
  refine wd_virtZ (q := 0) (y := y11) (as := [36893488147419103232, 93]) rfl rfl rfl (by decide) (Nat.le_of_ble_eq_true rfl) (Nat.le_of_ble_eq_true rfl) rfl (Nat.le_of_ble_eq_true rfl) rfl (dkT_213 T10 (by decide) e12) (fun p13 T14 => ?_)
  exact wq_iret rfl (wm_zlt p13) (Nat.blt_eq.mpr p13) (wkOZ h T14 p13)
/-- X12_chainValue -/
def dk_275 (F : wq_F) : Option (Nat × wq_F) :=
  od_up F 0 64 4294967295 fun F1 =>
  if (F1 0 61) = 4 then
    od_up F1 0 64 (F1 0 62) fun F9 =>
    some (1, F9)
  else
    (dk_223 F1).bind fun y5 =>
    some (1, y5.2)
theorem dkT_275 {d : Nat} {F : wq_F} (hT : wm_T F) {x : Nat × wq_F} (h : dk_275 F = some x) : mq (d + 2 + 1) 275 [36893488147419103232] wm_sh F (wkZ wm_T wm_sh x) := by
  have e : ev_ent [36893488147419103232] = [36893488147419103232] := by
    rfl
  refine mq_of (maxL := 1) (rt := (some .boolean)) (code := (ev_un al_mX12_chainValue.2.2.2.2)) (L := [36893488147419103232]) rfl (by rw [e]; exact Nat.le_of_ble_eq_true rfl) (by rw [e]; rfl) ?_
  unfold dk_275 at h
  refine wq_aload_n rfl rfl rfl ?_
  refine wq_iconst rfl rfl ?_
  obtain ⟨F1, e2, h⟩ := od_upE h
  refine wmE_put rfl (by decide) (wq_I (by decide)) e2 ?_
  have T3 : wm_T F1 := wd_T e2 (hT.uf (f := 64) (c := 0) (v := 4294967295) rfl (show 4294967295 < 4294967296 from (by decide)))
  refine wq_aload_n rfl rfl rfl ?_
  refine wm_getI rfl (by decide) ?_
  refine wq_iconst rfl rfl ?_
  refine wq_ic_ne rfl rfl (T3.i 61 rfl) (by decide) (fun h4 => ?_) (fun h4 => ?_)
  · replace h := od_neg h h4
    refine wq_aload_n rfl rfl rfl ?_
    obtain ⟨y5, e6, h⟩ := od_bindE h
    refine wd_virtN (q := 0) (y := y5) (as := [36893488147419103232]) rfl rfl rfl (by decide) (Nat.le_of_ble_eq_true rfl) (Nat.le_of_ble_eq_true rfl) rfl (Nat.le_of_ble_eq_true rfl) rfl (dkT_223 T3 e6) (fun T8 => ?_)
    refine wq_iconst rfl rfl ?_
    exact wq_iret rfl (wm_zlt (by decide)) (Nat.blt_eq.mpr (by decide)) (wkOZ h T8 (by decide))
  · replace h := od_pos h h4
    refine wq_aload_n rfl rfl rfl ?_
    refine wq_aload_n rfl rfl rfl ?_
    refine wm_getI rfl (by decide) ?_
    obtain ⟨F9, e10, h⟩ := od_upE h
    refine wmE_put rfl (by decide) (wq_I (T3.i 62 rfl)) e10 ?_
    have T11 : wm_T F9 := wd_T e10 (T3.uf (f := 64) (c := 0) (v := F1 0 62) rfl (show F1 0 62 < 4294967296 from (T3.i 62 rfl)))
    refine wq_goto rfl rfl ?_
    refine wq_iconst rfl rfl ?_
    exact wq_iret rfl (wm_zlt (by decide)) (Nat.blt_eq.mpr (by decide)) (wkOZ h T11 (by decide))
/-- X12_called -/
def dk_276 (F : wq_F) (a0 : Nat) : Option (Nat × wq_F) :=
  (dk_30 F 16 1 0 a0).bind fun y1 =>
  od_up y1.2 0 62 y1.1 fun F5 =>
  od_up F5 0 61 4 fun F8 =>
  some (1, F8)
theorem dkT_276 {d : Nat} {F : wq_F} (hT : wm_T F) {a0 : Nat} (ha0 : a0 < 4294967296) {x : Nat × wq_F} (h : dk_276 F a0 = some x) : mq (d + 1 + 1) 276 [36893488147419103232, a0] wm_sh F (wkZ wm_T wm_sh x) := by
  have e : ev_ent [36893488147419103232, a0] = [36893488147419103232, a0] := by
    show 36893488147419103232 :: ev_ent [a0] = _
    rw [wm_entI ha0]
    rfl
  refine mq_of (maxL := 2) (rt := (some .boolean)) (code := (ev_un al_mX12_called.2.2.2.2)) (L := [36893488147419103232, a0]) rfl (by rw [e]; exact Nat.le_of_ble_eq_true rfl) (by rw [e]; rfl) ?_
  unfold dk_276 at h
  refine wq_aload_n rfl rfl rfl ?_
  refine wq_aload_n rfl rfl rfl ?_
  refine wq_bipush rfl rfl ?_
  refine wq_iconst rfl rfl ?_
  refine wq_iconst rfl rfl ?_
  refine wq_iload_n rfl rfl ha0 ?_
  obtain ⟨y1, e2, h⟩ := od_bindE h
  refine wd_virtI (q := 0) (y := y1) (as := [36893488147419103232, 16, 1, 0, a0]) rfl rfl rfl (by decide) (Nat.le_of_ble_eq_true rfl) (Nat.le_of_ble_eq_true rfl) rfl (Nat.le_of_ble_eq_true rfl) rfl (dkT_30 hT (by decide) (wm_zlt (by decide)) (wm_zlt (by decide)) ha0 e2) (fun p3 T4 => ?_)
  obtain ⟨F5, e6, h⟩ := od_upE h
  refine wmE_put rfl (by decide) (wq_I p3) e6 ?_
  have T7 : wm_T F5 := wd_T e6 (T4.uf (f := 62) (c := 0) (v := y1.1) rfl (show y1.1 < 4294967296 from p3))
  refine wq_aload_n rfl rfl rfl ?_
  refine wq_iconst rfl rfl ?_
  obtain ⟨F8, e9, h⟩ := od_upE h
  refine wmE_put rfl (by decide) (wq_I (by decide)) e9 ?_
  have T10 : wm_T F8 := wd_T e9 (T7.uf (f := 61) (c := 0) (v := 4) rfl (show 4 < 4294967296 from (by decide)))
  refine wq_iconst rfl rfl ?_
  exact wq_iret rfl (wm_zlt (by decide)) (Nat.blt_eq.mpr (by decide)) (wkOZ h T10 (by decide))
/-- X12_row -/
def dk_247 (F : wq_F) (a0 : Nat) : Option (Nat × wq_F) :=
  (dk_36 F 44).bind fun y1 =>
  if y1.1 = 0 then
    if 2147483648 ≤ (y1.2 0 64) then
      some (1, y1.2)
    else
      od_g (y1.2 0 64 < 14000) <|
      od_up y1.2 21 (y1.2 0 64) 4294967295 fun F39 =>
      some (1, F39)
  else
    (dk_212 y1.2).bind fun y6 =>
    if y6.1 = 0 then
      some (0, y6.2)
    else
      (dk_217 y6.2).bind fun y11 =>
      if y11.1 = 0 then
        (dk_211 y11.2).bind fun y33 =>
        some (y33.1, y33.2)
      else
        if ((a0 + 1) % 4294967296) = 15 then
          (dk_210 y11.2).bind fun y25 =>
          (dk_209 y25.2 3 y25.1).bind fun y29 =>
          some (y29.1, y29.2)
        else
          (dk_31 y11.2 14 ((a0 + 1) % 4294967296) 0 0).bind fun y17 =>
          (dk_31 y17.2 3 0 0 0).bind fun y21 =>
          some (1, y21.2)
theorem dkT_247 {d : Nat} {F : wq_F} (hT : wm_T F) {a0 : Nat} (ha0 : a0 < 4294967296) {x : Nat × wq_F} (h : dk_247 F a0 = some x) : mq (d + 2 + 1) 247 [36893488147419103232, a0] wm_sh F (wkZ wm_T wm_sh x) := by
  have e : ev_ent [36893488147419103232, a0] = [36893488147419103232, a0] := by
    show 36893488147419103232 :: ev_ent [a0] = _
    rw [wm_entI ha0]
    rfl
  refine mq_of (maxL := 2) (rt := (some .boolean)) (code := (ev_un al_mX12_row.2.2.2.2)) (L := [36893488147419103232, a0]) rfl (by rw [e]; exact Nat.le_of_ble_eq_true rfl) (by rw [e]; rfl) ?_
  unfold dk_247 at h
  refine wq_aload_n rfl rfl rfl ?_
  refine wq_bipush rfl rfl ?_
  obtain ⟨y1, e2, h⟩ := od_bindE h
  refine wd_virtZ (q := 0) (y := y1) (as := [36893488147419103232, 44]) rfl rfl rfl (by decide) (Nat.le_of_ble_eq_true rfl) (Nat.le_of_ble_eq_true rfl) rfl (Nat.le_of_ble_eq_true rfl) rfl (dkT_36 hT (by decide) e2) (fun p3 T4 => ?_)
  refine wq_if_ne rfl rfl (wm_zlt p3) (fun h5 => ?_) (fun h5 => ?_)
  · replace h := od_neg h h5
    refine wq_aload_n rfl rfl rfl ?_
    obtain ⟨y6, e7, h⟩ := od_bindE h
    refine wd_virtZ (q := 0) (y := y6) (as := [36893488147419103232]) rfl rfl rfl (by decide) (Nat.le_of_ble_eq_true rfl) (Nat.le_of_ble_eq_true rfl) rfl (Nat.le_of_ble_eq_true rfl) rfl (dkT_212 T4 e7) (fun p8 T9 => ?_)
    refine wq_if_ne rfl rfl (wm_zlt p8) (fun h10 => ?_) (fun h10 => ?_)
    · replace h := od_neg h h10
      refine wq_aload_n rfl rfl rfl ?_
      obtain ⟨y11, e12, h⟩ := od_bindE h
      refine wd_virtZ (q := 0) (y := y11) (as := [36893488147419103232]) rfl rfl rfl (by decide) (Nat.le_of_ble_eq_true rfl) (Nat.le_of_ble_eq_true rfl) rfl (Nat.le_of_ble_eq_true rfl) rfl (dkT_217 T9 e12) (fun p13 T14 => ?_)
      refine wq_if_ne rfl rfl (wm_zlt p13) (fun h15 => ?_) (fun h15 => ?_)
      · replace h := od_neg h h15
        refine wq_iload_n rfl rfl ha0 ?_
        refine wq_iconst rfl rfl ?_
        refine wq_iaddZ rfl ha0 (wm_zlt (by decide)) (z := (a0 + 1) % 4294967296) rfl ?_
        refine wq_bipush rfl rfl ?_
        refine wq_ic_ne rfl rfl (Nat.mod_lt _ (by decide)) (by decide) (fun h16 => ?_) (fun h16 => ?_)
        · replace h := od_neg h h16
          refine wq_aload_n rfl rfl rfl ?_
          refine wq_bipush rfl rfl ?_
          refine wq_iload_n rfl rfl ha0 ?_
          refine wq_iconst rfl rfl ?_
          refine wq_iaddZ rfl ha0 (wm_zlt (by decide)) (z := (a0 + 1) % 4294967296) rfl ?_
          refine wq_iconst rfl rfl ?_
          refine wq_iconst rfl rfl ?_
          obtain ⟨y17, e18, h⟩ := od_bindE h
          refine wd_virtN (q := 0) (y := y17) (as := [36893488147419103232, 14, (a0 + 1) % 4294967296, 0, 0]) rfl rfl rfl (by decide) (Nat.le_of_ble_eq_true rfl) (Nat.le_of_ble_eq_true rfl) rfl (Nat.le_of_ble_eq_true rfl) rfl (dkT_31 T14 (by decide) (Nat.mod_lt _ (by decide)) (wm_zlt (by decide)) (wm_zlt (by decide)) e18) (fun T20 => ?_)
          refine wq_aload_n rfl rfl rfl ?_
          refine wq_iconst rfl rfl ?_
          refine wq_iconst rfl rfl ?_
          refine wq_iconst rfl rfl ?_
          refine wq_iconst rfl rfl ?_
          obtain ⟨y21, e22, h⟩ := od_bindE h
          refine wd_virtN (q := 0) (y := y21) (as := [36893488147419103232, 3, 0, 0, 0]) rfl rfl rfl (by decide) (Nat.le_of_ble_eq_true rfl) (Nat.le_of_ble_eq_true rfl) rfl (Nat.le_of_ble_eq_true rfl) rfl (dkT_31 T20 (by decide) (wm_zlt (by decide)) (wm_zlt (by decide)) (wm_zlt (by decide)) e22) (fun T24 => ?_)
          refine wq_iconst rfl rfl ?_
          exact wq_iret rfl (wm_zlt (by decide)) (Nat.blt_eq.mpr (by decide)) (wkOZ h T24 (by decide))
        · replace h := od_pos h h16
          refine wq_aload_n rfl rfl rfl ?_
          refine wq_iconst rfl rfl ?_
          refine wq_aload_n rfl rfl rfl ?_
          obtain ⟨y25, e26, h⟩ := od_bindE h
          refine wd_virtI (q := 0) (y := y25) (as := [36893488147419103232]) rfl rfl rfl (by decide) (Nat.le_of_ble_eq_true rfl) (Nat.le_of_ble_eq_true rfl) rfl (Nat.le_of_ble_eq_true rfl) rfl (dkT_210 T14 e26) (fun p27 T28 => ?_)
          obtain ⟨y29, e30, h⟩ := od_bindE h
          refine wd_virtZ (q := 0) (y := y29) (as := [36893488147419103232, 3, y25.1]) rfl rfl rfl (by decide) (Nat.le_of_ble_eq_true rfl) (Nat.le_of_ble_eq_true rfl) rfl (Nat.le_of_ble_eq_true rfl) rfl (dkT_209 T28 (by decide) p27 e30) (fun p31 T32 => ?_)
          exact wq_iret rfl (wm_zlt p31) (Nat.blt_eq.mpr p31) (wkOZ h T32 p31)
      · replace h := od_pos h h15
        refine wq_aload_n rfl rfl rfl ?_
        obtain ⟨y33, e34, h⟩ := od_bindE h
        refine wd_virtZ (q := 0) (y := y33) (as := [36893488147419103232]) rfl rfl rfl (by decide) (Nat.le_of_ble_eq_true rfl) (Nat.le_of_ble_eq_true rfl) rfl (Nat.le_of_ble_eq_true rfl) rfl (dkT_211 T14 e34) (fun p35 T36 => ?_)
        exact wq_iret rfl (wm_zlt p35) (Nat.blt_eq.mpr p35) (wkOZ h T36 p35)
    · replace h := od_pos h h10
      refine wq_iconst rfl rfl ?_
      exact wq_iret rfl (wm_zlt (by decide)) (Nat.blt_eq.mpr (by decide)) (wkOZ h T9 (by decide))
  · replace h := od_pos h h5
    refine wq_aload_n rfl rfl rfl ?_
    refine wm_getI rfl (by decide) ?_
    refine wq_if_lt rfl rfl (T4.i 64 rfl) (fun h37 => ?_) (fun h37 => ?_)
    · replace h := od_pos h h37
      refine wq_iconst rfl rfl ?_
      exact wq_iret rfl (wm_zlt (by decide)) (Nat.blt_eq.mpr (by decide)) (wkOZ h T4 (by decide))
    · replace h := od_neg h (Nat.not_le.mpr h37)
      refine wq_aload_n rfl rfl rfl ?_
      refine wm_getR (v := 36893488147419103253) rfl (by decide) (T4.r 36 20 rfl) ?_
      refine wq_aload_n rfl rfl rfl ?_
      refine wm_getI rfl (by decide) ?_
      refine wq_iconst rfl rfl ?_
      obtain ⟨g38, h⟩ := od_gE h
      obtain ⟨F39, e40, h⟩ := od_upE h
      refine wd_iastore (q := 21) (n := 14000) rfl rfl (by decide) g38 (by decide) (by decide) e40 ?_
      have T41 : wm_T F39 := wd_T e40 (T4.ua (k := 21) (kd := 1000) (n := 14000) (i := y1.2 0 64) (v := 4294967295) rfl (by decide) g38 (show 4294967295 < 4294967296 from (by decide)))
      refine wq_iconst rfl rfl ?_
      exact wq_iret rfl (wm_zlt (by decide)) (Nat.blt_eq.mpr (by decide)) (wkOZ h T41 (by decide))
