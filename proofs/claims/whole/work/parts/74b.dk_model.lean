/-! ===== 74b: the reference: methods as functions on memories (by wip/whole2/law73.py, dc.py): 205 X12_readString, 207 X12_isAlone, 208 X12_readSign, 26 X12_readTokens, 30 X12_emit, 31 X12_later, 34 X12_isWord, 210 X12_here, 215 X12_lineHere, 209 X12_fail, 212 X12_take, 36 X12_isSign, 217 X12_beginsE, 35 X12_beginsStatement, 216 X12_enter, 224 X12_block, 227 X12_openLoop, 218 X12_proto, 211 X12_wrong, 219 X12_countLocal, 214 X12_needWord ===== -/
def dk_205_118 (n : Nat) (F : wq_F) (v2 : Nat) (v3 : Nat) : Option (Nat × wq_F) :=
  if 2147483648 ≤ v3 then
    some (0, F)
  else
    (dk_28 F v3).bind fun y2 =>
    if y2.1 = v2 then
      if ev_s 200 < ev_s (y2.2 0 20) then
        some (0, y2.2)
      else
        od_up y2.2 0 67 3 fun F8 =>
        (dk_22 n F8 1).bind fun y11 =>
        od_up y11.2 0 68 (ev_oI2l y11.1) fun F15 =>
        od_up F15 0 69 ((v3 + 1) % 4294967296) fun F18 =>
        some (0, F18)
    else
      some (0, y2.2)
theorem dk_205_118T {d n : Nat} : ∀ ⦃u1 : Nat⦄ ⦃F : wq_F⦄ (hT : wm_T F) ⦃v2 : Nat⦄ (hv2 : v2 < 4294967296) ⦃v3 : Nat⦄ (hv3 : v3 < 4294967296) (hu1 : ev_isL u1 = false) ⦃x : Nat × wq_F⦄ (h : dk_205_118 n F v2 v3 = some x), wq (wq_cf (d + 2)) (ev_un al_mX12_readString.2.2.2.2) none 118 [36893488147419103232, u1, v2, v3] [] wm_sh F 0 0 (wkN wm_T wm_sh x) := by
  intro u1 F hT v2 hv2 v3 hv3 hu1 x h
  unfold dk_205_118 at h
  refine wq_iload_n rfl rfl hv3 ?_
  refine wq_if_lt rfl rfl hv3 (fun h1 => ?_) (fun h1 => ?_)
  · replace h := od_pos h h1
    exact wq_ret rfl (wkON h hT)
  · replace h := od_neg h (Nat.not_le.mpr h1)
    refine wq_aload_n rfl rfl rfl ?_
    refine wq_iload_n rfl rfl hv3 ?_
    obtain ⟨y2, e3, h⟩ := od_bindE h
    refine wd_virtI (q := 0) (y := y2) (as := [36893488147419103232, v3]) rfl rfl rfl (by decide) (Nat.le_of_ble_eq_true rfl) (Nat.le_of_ble_eq_true rfl) rfl (Nat.le_of_ble_eq_true rfl) rfl (dkT_28 hT hv3 e3) (fun p4 T5 => ?_)
    refine wq_iload_n rfl rfl hv2 ?_
    refine wq_ic_ne rfl rfl p4 hv2 (fun h6 => ?_) (fun h6 => ?_)
    · replace h := od_neg h h6
      exact wq_ret rfl (wkON h T5)
    · replace h := od_pos h h6
      refine wq_aload_n rfl rfl rfl ?_
      refine wm_getI rfl (by decide) ?_
      refine wq_sipush rfl rfl ?_
      refine wq_ic_gt rfl rfl (T5.i 20 rfl) (by decide) (fun h7 => ?_) (fun h7 => ?_)
      · replace h := od_pos h h7
        exact wq_ret rfl (wkON h T5)
      · replace h := od_neg h (Nat.not_lt.mpr h7)
        refine wq_aload_n rfl rfl rfl ?_
        refine wq_iconst rfl rfl ?_
        obtain ⟨F8, e9, h⟩ := od_upE h
        refine wmE_put rfl (by decide) (wq_I (by decide)) e9 ?_
        have T10 : wm_T F8 := wd_T e9 (T5.uf (f := 67) (c := 0) (v := 3) rfl (show 3 < 4294967296 from (by decide)))
        refine wq_aload_n rfl rfl rfl ?_
        refine wq_aload_n rfl rfl rfl ?_
        refine wq_iconst rfl rfl ?_
        obtain ⟨y11, e12, h⟩ := od_bindE h
        refine wd_virtI (q := 0) (y := y11) (as := [36893488147419103232, 1]) rfl rfl rfl (by decide) (Nat.le_of_ble_eq_true rfl) (Nat.le_of_ble_eq_true rfl) rfl (Nat.le_of_ble_eq_true rfl) rfl (dkT_22 T10 (wm_zlt (by decide)) e12) (fun p13 T14 => ?_)
        refine wq_i2l rfl p13 ?_
        obtain ⟨F15, e16, h⟩ := od_upE h
        refine wmE_put rfl (by decide) (wq_i2l_L p13) e16 ?_
        have T17 : wm_T F15 := wd_T e16 (T14.uf (f := 68) (c := 10) (v := ev_oI2l y11.1) rfl (show ev_isL (ev_oI2l y11.1) = true from (wq_i2l_L p13)))
        refine wq_aload_n rfl rfl rfl ?_
        refine wq_iload_n rfl rfl hv3 ?_
        refine wq_iconst rfl rfl ?_
        refine wq_iaddZ rfl hv3 (wm_zlt (by decide)) (z := (v3 + 1) % 4294967296) rfl ?_
        obtain ⟨F18, e19, h⟩ := od_upE h
        refine wmE_put rfl (by decide) (wq_I (Nat.mod_lt _ (by decide))) e19 ?_
        have T20 : wm_T F18 := wd_T e19 (T17.uf (f := 69) (c := 0) (v := (v3 + 1) % 4294967296) rfl (show (v3 + 1) % 4294967296 < 4294967296 from (Nat.mod_lt _ (by decide))))
        exact wq_ret rfl (wkON h T20)
def dk_205_21b (n : Nat) (r21 : wq_F → Nat → Nat → Option (Nat × wq_F)) (F : wq_F) (v2 : Nat) (v3 : Nat) : Option (Nat × wq_F) :=
  if 2147483648 ≤ v3 then
    dk_205_118 n F v2 v3
  else
    if ev_s v3 < ev_s (F 0 2) then
      od_g (v3 < 6000) <|
      if (F 1 v3) = v2 then
        dk_205_118 n F v2 v3
      else
        od_g (v3 < 6000) <|
        if (F 1 v3) = 10 then
          dk_205_118 n F v2 v3
        else
          if ev_s 200 < ev_s (F 0 20) then
            dk_205_118 n F v2 v3
          else
            od_g (v3 < 6000) <|
            if (F 1 v3) = 92 then
              (dk_204 n F ((v3 + 1) % 4294967296)).bind fun y24 =>
              r21 y24.2 v2 y24.1
            else
              od_g (v3 < 6000) <|
              od_g (F 0 20 < 4200) <|
              od_up F 8 (F 0 20) ((ev_b8 (ev_b8 (F 1 v3)))) fun F12 =>
              od_let (((F12 0 20) + 1) % 4294967296) fun y15 =>
              od_up F12 0 20 y15 fun F18 =>
              od_let ((v3 + 1) % 4294967296) fun y21 =>
              r21 F18 v2 y21
    else
      dk_205_118 n F v2 v3
theorem dk_205_21bT {d n : Nat} {r21 : wq_F → Nat → Nat → Option (Nat × wq_F)} (hr21 : ∀ ⦃u1 : Nat⦄ ⦃F : wq_F⦄ (hT : wm_T F) ⦃v2 : Nat⦄ (hv2 : v2 < 4294967296) ⦃v3 : Nat⦄ (hv3 : v3 < 4294967296) (hu1 : ev_isL u1 = false) ⦃x : Nat × wq_F⦄ (h : r21 F v2 v3 = some x), wq (wq_cf (d + 2)) (ev_un al_mX12_readString.2.2.2.2) none 21 [36893488147419103232, u1, v2, v3] [] wm_sh F 0 0 (wkN wm_T wm_sh x)) : ∀ ⦃u1 : Nat⦄ ⦃F : wq_F⦄ (hT : wm_T F) ⦃v2 : Nat⦄ (hv2 : v2 < 4294967296) ⦃v3 : Nat⦄ (hv3 : v3 < 4294967296) (hu1 : ev_isL u1 = false) ⦃x : Nat × wq_F⦄ (h : dk_205_21b n r21 F v2 v3 = some x), wq (wq_cf (d + 2)) (ev_un al_mX12_readString.2.2.2.2) none 21 [36893488147419103232, u1, v2, v3] [] wm_sh F 0 0 (wkN wm_T wm_sh x) := by
  intro u1 F hT v2 hv2 v3 hv3 hu1 x h
  unfold dk_205_21b at h
  refine wq_iload_n rfl rfl hv3 ?_
  refine wq_if_lt rfl rfl hv3 (fun h1 => ?_) (fun h1 => ?_)
  · replace h := od_pos h h1
    exact dk_205_118T hT hv2 hv3 hu1 h
  · replace h := od_neg h (Nat.not_le.mpr h1)
    refine wq_iload_n rfl rfl hv3 ?_
    refine wq_aload_n rfl rfl rfl ?_
    refine wm_getI rfl (by decide) ?_
    refine wq_ic_ge rfl rfl hv3 (hT.i 2 rfl) (fun h2 => ?_) (fun h2 => ?_)
    · replace h := od_neg h (Nat.not_lt.mpr h2)
      exact dk_205_118T hT hv2 hv3 hu1 h
    · replace h := od_pos h h2
      refine wq_aload_n rfl rfl rfl ?_
      refine wm_getR (v := 36893488147419103233) rfl (by decide) (hT.r 1 0 rfl) ?_
      refine wq_iload_n rfl rfl hv3 ?_
      obtain ⟨g3, h⟩ := od_gE h
      refine wq_iaload (q := 1) (n := 6000) rfl rfl (by decide) g3 (by decide) ?_
      refine wq_iload_n rfl rfl hv2 ?_
      refine wq_ic_eq rfl rfl (hT.ai (k := 1) rfl g3) hv2 (fun h4 => ?_) (fun h4 => ?_)
      · replace h := od_pos h h4
        exact dk_205_118T hT hv2 hv3 hu1 h
      · replace h := od_neg h h4
        refine wq_aload_n rfl rfl rfl ?_
        refine wm_getR (v := 36893488147419103233) rfl (by decide) (hT.r 1 0 rfl) ?_
        refine wq_iload_n rfl rfl hv3 ?_
        obtain ⟨g5, h⟩ := od_gE h
        refine wq_iaload (q := 1) (n := 6000) rfl rfl (by decide) g5 (by decide) ?_
        refine wq_bipush rfl rfl ?_
        refine wq_ic_eq rfl rfl (hT.ai (k := 1) rfl g5) (by decide) (fun h6 => ?_) (fun h6 => ?_)
        · replace h := od_pos h h6
          exact dk_205_118T hT hv2 hv3 hu1 h
        · replace h := od_neg h h6
          refine wq_aload_n rfl rfl rfl ?_
          refine wm_getI rfl (by decide) ?_
          refine wq_sipush rfl rfl ?_
          refine wq_ic_gt rfl rfl (hT.i 20 rfl) (by decide) (fun h7 => ?_) (fun h7 => ?_)
          · replace h := od_pos h h7
            exact dk_205_118T hT hv2 hv3 hu1 h
          · replace h := od_neg h (Nat.not_lt.mpr h7)
            refine wq_aload_n rfl rfl rfl ?_
            refine wm_getR (v := 36893488147419103233) rfl (by decide) (hT.r 1 0 rfl) ?_
            refine wq_iload_n rfl rfl hv3 ?_
            obtain ⟨g8, h⟩ := od_gE h
            refine wq_iaload (q := 1) (n := 6000) rfl rfl (by decide) g8 (by decide) ?_
            refine wq_bipush rfl rfl ?_
            refine wq_ic_ne rfl rfl (hT.ai (k := 1) rfl g8) (by decide) (fun h9 => ?_) (fun h9 => ?_)
            · replace h := od_neg h h9
              refine wq_aload_n rfl rfl rfl ?_
              refine wm_getR (v := 36893488147419103240) rfl (by decide) (hT.r 19 7 rfl) ?_
              refine wq_aload_n rfl rfl rfl ?_
              refine wm_getI rfl (by decide) ?_
              refine wq_aload_n rfl rfl rfl ?_
              refine wm_getR (v := 36893488147419103233) rfl (by decide) (hT.r 1 0 rfl) ?_
              refine wq_iload_n rfl rfl hv3 ?_
              obtain ⟨g10, h⟩ := od_gE h
              refine wq_iaload (q := 1) (n := 6000) rfl rfl (by decide) g10 (by decide) ?_
              refine wq_i2b rfl (hT.ai (k := 1) rfl g10) ?_
              obtain ⟨g11, h⟩ := od_gE h
              obtain ⟨F12, e13, h⟩ := od_upE h
              refine wd_bastore (q := 8) (n := 4200) rfl rfl (by decide) g11 (by decide) (ev_b8_lt _) e13 ?_
              have T14 : wm_T F12 := wd_T e13 (hT.ua (k := 8) (kd := 1001) (n := 4200) (i := F 0 20) (v := (ev_b8 (ev_b8 (F 1 v3)))) rfl (by decide) g11 ⟨ev_b8_lt _, wm_b8b8 _⟩)
              refine wq_aload_n rfl rfl rfl ?_
              refine wq_dup rfl rfl ?_
              refine wm_getI rfl (by decide) ?_
              refine wq_iconst rfl rfl ?_
              refine wq_iaddZ rfl (T14.i 20 rfl) (wm_zlt (by decide)) (z := ((F12 0 20) + 1) % 4294967296) rfl ?_
              obtain ⟨y15, e16, h⟩ := od_letE h
              refine wq_top e16.symm ?_
              have p17 : y15 < 4294967296 := wd_lt e16 (Nat.mod_lt _ (by decide))
              obtain ⟨F18, e19, h⟩ := od_upE h
              refine wmE_put rfl (by decide) (wq_I p17) e19 ?_
              have T20 : wm_T F18 := wd_T e19 (T14.uf (f := 20) (c := 0) (v := y15) rfl (show y15 < 4294967296 from p17))
              obtain ⟨y21, e22, h⟩ := od_letE h
              have p23 : y21 < 4294967296 := wd_lt e22 (Nat.mod_lt _ (by decide))
              refine wq_iincZ rfl rfl hv3 (Or.inr ⟨_, rfl, (wq_notL hv2)⟩) rfl (z := y21) e22.symm (L' := [36893488147419103232, u1, v2, y21]) rfl ?_
              refine wq_goto rfl rfl ?_
              exact hr21 T20 hv2 p23 hu1 h
            · replace h := od_pos h h9
              refine wq_aload_n rfl rfl rfl ?_
              refine wq_iload_n rfl rfl hv3 ?_
              refine wq_iconst rfl rfl ?_
              refine wq_iaddZ rfl hv3 (wm_zlt (by decide)) (z := (v3 + 1) % 4294967296) rfl ?_
              obtain ⟨y24, e25, h⟩ := od_bindE h
              refine wd_virtI (q := 0) (y := y24) (as := [36893488147419103232, (v3 + 1) % 4294967296]) rfl rfl rfl (by decide) (Nat.le_of_ble_eq_true rfl) (Nat.le_of_ble_eq_true rfl) rfl (Nat.le_of_ble_eq_true rfl) rfl (dkT_204 hT (Nat.mod_lt _ (by decide)) e25) (fun p26 T27 => ?_)
              refine wq_istore_n rfl p26 (Nat.le_of_ble_eq_true rfl) (Or.inr ⟨_, rfl, (wq_notL hv2)⟩) (L' := [36893488147419103232, u1, v2, y24.1]) rfl ?_
              refine wq_goto rfl rfl ?_
              exact hr21 T27 hv2 p26 hu1 h
def dk_205_21 (n : Nat) : Nat → wq_F → Nat → Nat → Option (Nat × wq_F)
  | 0 => fun _ _ _ => none
  | g + 1 => dk_205_21b n (dk_205_21 n g)
theorem dk_205_21T {d n : Nat} : ∀ g : Nat, ∀ ⦃u1 : Nat⦄ ⦃F : wq_F⦄ (hT : wm_T F) ⦃v2 : Nat⦄ (hv2 : v2 < 4294967296) ⦃v3 : Nat⦄ (hv3 : v3 < 4294967296) (hu1 : ev_isL u1 = false) ⦃x : Nat × wq_F⦄ (h : dk_205_21 n g F v2 v3 = some x), wq (wq_cf (d + 2)) (ev_un al_mX12_readString.2.2.2.2) none 21 [36893488147419103232, u1, v2, v3] [] wm_sh F 0 0 (wkN wm_T wm_sh x)
  | 0 => by
    intro u1 F hT v2 hv2 v3 hv3 hu1 x h
    cases h
  | g + 1 => dk_205_21bT (dk_205_21T g)
/-- X12_readString -/
def dk_205 (n : Nat) (F : wq_F) (a0 : Nat) : Option (Nat × wq_F) :=
  (dk_28 F a0).bind fun y1 =>
  od_up y1.2 0 20 0 fun F5 =>
  od_up F5 0 67 7 fun F8 =>
  dk_205_21 n n F8 y1.1 ((a0 + 1) % 4294967296)
theorem dkT_205 {d n : Nat} {F : wq_F} (hT : wm_T F) {a0 : Nat} (ha0 : a0 < 4294967296) {x : Nat × wq_F} (h : dk_205 n F a0 = some x) : mq (d + 2 + 1) 205 [36893488147419103232, a0] wm_sh F (wkN wm_T wm_sh x) := by
  have e : ev_ent [36893488147419103232, a0] = [36893488147419103232, a0] := by
    show 36893488147419103232 :: ev_ent [a0] = _
    rw [wm_entI ha0]
    rfl
  refine mq_of (maxL := 4) (rt := none) (code := (ev_un al_mX12_readString.2.2.2.2)) (L := [36893488147419103232, a0, 73786976294838206464, 73786976294838206464]) rfl (by rw [e]; exact Nat.le_of_ble_eq_true rfl) (by rw [e]; rfl) ?_
  unfold dk_205 at h
  refine wq_aload_n rfl rfl rfl ?_
  refine wq_iload_n rfl rfl ha0 ?_
  obtain ⟨y1, e2, h⟩ := od_bindE h
  refine wd_virtI (q := 0) (y := y1) (as := [36893488147419103232, a0]) rfl rfl rfl (by decide) (Nat.le_of_ble_eq_true rfl) (Nat.le_of_ble_eq_true rfl) rfl (Nat.le_of_ble_eq_true rfl) rfl (dkT_28 hT ha0 e2) (fun p3 T4 => ?_)
  refine wq_istore_n rfl p3 (Nat.le_of_ble_eq_true rfl) (Or.inr ⟨_, rfl, (wq_notL ha0)⟩) (L' := [36893488147419103232, a0, y1.1, 73786976294838206464]) rfl ?_
  refine wq_iload_n rfl rfl ha0 ?_
  refine wq_iconst rfl rfl ?_
  refine wq_iaddZ rfl ha0 (wm_zlt (by decide)) (z := (a0 + 1) % 4294967296) rfl ?_
  refine wq_istore_n rfl (Nat.mod_lt _ (by decide)) (Nat.le_of_ble_eq_true rfl) (Or.inr ⟨_, rfl, (wq_notL p3)⟩) (L' := [36893488147419103232, a0, y1.1, (a0 + 1) % 4294967296]) rfl ?_
  refine wq_aload_n rfl rfl rfl ?_
  refine wq_iconst rfl rfl ?_
  obtain ⟨F5, e6, h⟩ := od_upE h
  refine wmE_put rfl (by decide) (wq_I (wm_zlt (by decide))) e6 ?_
  have T7 : wm_T F5 := wd_T e6 (T4.uf (f := 20) (c := 0) (v := 0) rfl (show 0 < 4294967296 from (wm_zlt (by decide))))
  refine wq_aload_n rfl rfl rfl ?_
  refine wq_bipush rfl rfl ?_
  obtain ⟨F8, e9, h⟩ := od_upE h
  refine wmE_put rfl (by decide) (wq_I (by decide)) e9 ?_
  have T10 : wm_T F8 := wd_T e9 (T7.uf (f := 67) (c := 0) (v := 7) rfl (show 7 < 4294967296 from (by decide)))
  exact dk_205_21T n T10 p3 (Nat.mod_lt _ (by decide)) (wq_notL ha0) h
/-- X12_isAlone -/
def dk_207 (F : wq_F) (a0 : Nat) : Option (Nat × wq_F) :=
  if a0 = 35 then
    some (1, F)
  else if a0 = 36 then
    some (0, F)
  else if a0 = 37 then
    some (1, F)
  else if a0 = 38 then
    some (1, F)
  else if a0 = 39 then
    some (0, F)
  else if a0 = 40 then
    some (1, F)
  else if a0 = 41 then
    some (1, F)
  else if a0 = 42 then
    some (1, F)
  else if a0 = 43 then
    some (1, F)
  else if a0 = 44 then
    some (1, F)
  else if a0 = 45 then
    some (1, F)
  else if a0 = 46 then
    some (1, F)
  else if a0 = 47 then
    some (0, F)
  else if a0 = 48 then
    some (0, F)
  else if a0 = 49 then
    some (0, F)
  else if a0 = 50 then
    some (0, F)
  else if a0 = 51 then
    some (0, F)
  else if a0 = 52 then
    some (0, F)
  else if a0 = 53 then
    some (0, F)
  else if a0 = 54 then
    some (0, F)
  else if a0 = 55 then
    some (0, F)
  else if a0 = 56 then
    some (0, F)
  else if a0 = 57 then
    some (0, F)
  else if a0 = 58 then
    some (1, F)
  else if a0 = 59 then
    some (1, F)
  else if a0 = 60 then
    some (1, F)
  else if a0 = 61 then
    some (1, F)
  else if a0 = 62 then
    some (1, F)
  else if a0 = 63 then
    some (0, F)
  else if a0 = 64 then
    some (0, F)
  else if a0 = 65 then
    some (0, F)
  else if a0 = 66 then
    some (0, F)
  else if a0 = 67 then
    some (0, F)
  else if a0 = 68 then
    some (0, F)
  else if a0 = 69 then
    some (0, F)
  else if a0 = 70 then
    some (0, F)
  else if a0 = 71 then
    some (0, F)
  else if a0 = 72 then
    some (0, F)
  else if a0 = 73 then
    some (0, F)
  else if a0 = 74 then
    some (0, F)
  else if a0 = 75 then
    some (0, F)
  else if a0 = 76 then
    some (0, F)
  else if a0 = 77 then
    some (0, F)
  else if a0 = 78 then
    some (0, F)
  else if a0 = 79 then
    some (0, F)
  else if a0 = 80 then
    some (0, F)
  else if a0 = 81 then
    some (0, F)
  else if a0 = 82 then
    some (0, F)
  else if a0 = 83 then
    some (0, F)
  else if a0 = 84 then
    some (0, F)
  else if a0 = 85 then
    some (0, F)
  else if a0 = 86 then
    some (0, F)
  else if a0 = 87 then
    some (0, F)
  else if a0 = 88 then
    some (0, F)
  else if a0 = 89 then
    some (0, F)
  else if a0 = 90 then
    some (0, F)
  else if a0 = 91 then
    some (1, F)
  else if a0 = 92 then
    some (0, F)
  else if a0 = 93 then
    some (1, F)
  else if a0 = 94 then
    some (0, F)
  else if a0 = 95 then
    some (0, F)
  else if a0 = 96 then
    some (0, F)
  else if a0 = 97 then
    some (0, F)
  else if a0 = 98 then
    some (0, F)
  else if a0 = 99 then
    some (0, F)
  else if a0 = 100 then
    some (0, F)
  else if a0 = 101 then
    some (0, F)
  else if a0 = 102 then
    some (0, F)
  else if a0 = 103 then
    some (0, F)
  else if a0 = 104 then
    some (0, F)
  else if a0 = 105 then
    some (0, F)
  else if a0 = 106 then
    some (0, F)
  else if a0 = 107 then
    some (0, F)
  else if a0 = 108 then
    some (0, F)
  else if a0 = 109 then
    some (0, F)
  else if a0 = 110 then
    some (0, F)
  else if a0 = 111 then
    some (0, F)
  else if a0 = 112 then
    some (0, F)
  else if a0 = 113 then
    some (0, F)
  else if a0 = 114 then
    some (0, F)
  else if a0 = 115 then
    some (0, F)
  else if a0 = 116 then
    some (0, F)
  else if a0 = 117 then
    some (0, F)
  else if a0 = 118 then
    some (0, F)
  else if a0 = 119 then
    some (0, F)
  else if a0 = 120 then
    some (0, F)
  else if a0 = 121 then
    some (0, F)
  else if a0 = 122 then
    some (0, F)
  else if a0 = 123 then
    some (1, F)
  else if a0 = 124 then
    some (1, F)
  else if a0 = 125 then
    some (1, F)
  else if a0 = 126 then
    some (1, F)
  else 
  some (0, F)
theorem dkT_207 {d : Nat} {F : wq_F} (hT : wm_T F) {a0 : Nat} (ha0 : a0 < 4294967296) {x : Nat × wq_F} (h : dk_207 F a0 = some x) : mq (d + 0 + 1) 207 [a0] wm_sh F (wkZ wm_T wm_sh x) := by
  have e : ev_ent [a0] = [a0] := by
    rw [wm_entI ha0]
    rfl
  refine mq_of (maxL := 1) (rt := (some .boolean)) (code := (ev_un al_mX12_isAlone.2.2.2.2)) (L := [a0]) rfl (by rw [e]; exact Nat.le_of_ble_eq_true rfl) (by rw [e]; rfl) ?_
  unfold dk_207 at h
  refine wq_iload_n rfl rfl ha0 ?_
  have i1 : a0 < 35 ∨ 35 ≤ a0 := Nat.lt_or_ge _ _
  by_cases h2 : a0 = 35
  case pos =>
    replace h := od_pos h h2
    refine wq_top h2 ?_
    refine wq_tsw rfl (by decide) (tgt := 384) rfl ?_
    refine wq_iconst rfl rfl ?_
    exact wq_iret rfl (wm_zlt (by decide)) (Nat.blt_eq.mpr (by decide)) (wkOZ h hT (by decide))
  replace h := od_neg h h2
  have i3 : a0 < 35 ∨ 36 ≤ a0 := by omega
  clear i1
  by_cases h4 : a0 = 36
  case pos =>
    replace h := od_pos h h4
    refine wq_top h4 ?_
    refine wq_tsw rfl (by decide) (tgt := 386) rfl ?_
    refine wq_iconst rfl rfl ?_
    exact wq_iret rfl (wm_zlt (by decide)) (Nat.blt_eq.mpr (by decide)) (wkOZ h hT (by decide))
  replace h := od_neg h h4
  have i5 : a0 < 35 ∨ 37 ≤ a0 := by omega
  clear i3
  by_cases h6 : a0 = 37
  case pos =>
    replace h := od_pos h h6
    refine wq_top h6 ?_
    refine wq_tsw rfl (by decide) (tgt := 384) rfl ?_
    refine wq_iconst rfl rfl ?_
    exact wq_iret rfl (wm_zlt (by decide)) (Nat.blt_eq.mpr (by decide)) (wkOZ h hT (by decide))
  replace h := od_neg h h6
  have i7 : a0 < 35 ∨ 38 ≤ a0 := by omega
  clear i5
  by_cases h8 : a0 = 38
  case pos =>
    replace h := od_pos h h8
    refine wq_top h8 ?_
    refine wq_tsw rfl (by decide) (tgt := 384) rfl ?_
    refine wq_iconst rfl rfl ?_
    exact wq_iret rfl (wm_zlt (by decide)) (Nat.blt_eq.mpr (by decide)) (wkOZ h hT (by decide))
  replace h := od_neg h h8
  have i9 : a0 < 35 ∨ 39 ≤ a0 := by omega
  clear i7
  by_cases h10 : a0 = 39
  case pos =>
    replace h := od_pos h h10
    refine wq_top h10 ?_
    refine wq_tsw rfl (by decide) (tgt := 386) rfl ?_
    refine wq_iconst rfl rfl ?_
    exact wq_iret rfl (wm_zlt (by decide)) (Nat.blt_eq.mpr (by decide)) (wkOZ h hT (by decide))
  replace h := od_neg h h10
  have i11 : a0 < 35 ∨ 40 ≤ a0 := by omega
  clear i9
  by_cases h12 : a0 = 40
  case pos =>
    replace h := od_pos h h12
    refine wq_top h12 ?_
    refine wq_tsw rfl (by decide) (tgt := 384) rfl ?_
    refine wq_iconst rfl rfl ?_
    exact wq_iret rfl (wm_zlt (by decide)) (Nat.blt_eq.mpr (by decide)) (wkOZ h hT (by decide))
  replace h := od_neg h h12
  have i13 : a0 < 35 ∨ 41 ≤ a0 := by omega
  clear i11
  by_cases h14 : a0 = 41
  case pos =>
    replace h := od_pos h h14
    refine wq_top h14 ?_
    refine wq_tsw rfl (by decide) (tgt := 384) rfl ?_
    refine wq_iconst rfl rfl ?_
    exact wq_iret rfl (wm_zlt (by decide)) (Nat.blt_eq.mpr (by decide)) (wkOZ h hT (by decide))
  replace h := od_neg h h14
  have i15 : a0 < 35 ∨ 42 ≤ a0 := by omega
  clear i13
  by_cases h16 : a0 = 42
  case pos =>
    replace h := od_pos h h16
    refine wq_top h16 ?_
    refine wq_tsw rfl (by decide) (tgt := 384) rfl ?_
    refine wq_iconst rfl rfl ?_
    exact wq_iret rfl (wm_zlt (by decide)) (Nat.blt_eq.mpr (by decide)) (wkOZ h hT (by decide))
  replace h := od_neg h h16
  have i17 : a0 < 35 ∨ 43 ≤ a0 := by omega
  clear i15
  by_cases h18 : a0 = 43
  case pos =>
    replace h := od_pos h h18
    refine wq_top h18 ?_
    refine wq_tsw rfl (by decide) (tgt := 384) rfl ?_
    refine wq_iconst rfl rfl ?_
    exact wq_iret rfl (wm_zlt (by decide)) (Nat.blt_eq.mpr (by decide)) (wkOZ h hT (by decide))
  replace h := od_neg h h18
  have i19 : a0 < 35 ∨ 44 ≤ a0 := by omega
  clear i17
  by_cases h20 : a0 = 44
  case pos =>
    replace h := od_pos h h20
    refine wq_top h20 ?_
    refine wq_tsw rfl (by decide) (tgt := 384) rfl ?_
    refine wq_iconst rfl rfl ?_
    exact wq_iret rfl (wm_zlt (by decide)) (Nat.blt_eq.mpr (by decide)) (wkOZ h hT (by decide))
  replace h := od_neg h h20
  have i21 : a0 < 35 ∨ 45 ≤ a0 := by omega
  clear i19
  by_cases h22 : a0 = 45
  case pos =>
    replace h := od_pos h h22
    refine wq_top h22 ?_
    refine wq_tsw rfl (by decide) (tgt := 384) rfl ?_
    refine wq_iconst rfl rfl ?_
    exact wq_iret rfl (wm_zlt (by decide)) (Nat.blt_eq.mpr (by decide)) (wkOZ h hT (by decide))
  replace h := od_neg h h22
  have i23 : a0 < 35 ∨ 46 ≤ a0 := by omega
  clear i21
  by_cases h24 : a0 = 46
  case pos =>
    replace h := od_pos h h24
    refine wq_top h24 ?_
    refine wq_tsw rfl (by decide) (tgt := 384) rfl ?_
    refine wq_iconst rfl rfl ?_
    exact wq_iret rfl (wm_zlt (by decide)) (Nat.blt_eq.mpr (by decide)) (wkOZ h hT (by decide))
  replace h := od_neg h h24
  have i25 : a0 < 35 ∨ 47 ≤ a0 := by omega
  clear i23
  by_cases h26 : a0 = 47
  case pos =>
    replace h := od_pos h h26
    refine wq_top h26 ?_
    refine wq_tsw rfl (by decide) (tgt := 386) rfl ?_
    refine wq_iconst rfl rfl ?_
    exact wq_iret rfl (wm_zlt (by decide)) (Nat.blt_eq.mpr (by decide)) (wkOZ h hT (by decide))
  replace h := od_neg h h26
  have i27 : a0 < 35 ∨ 48 ≤ a0 := by omega
  clear i25
  by_cases h28 : a0 = 48
  case pos =>
    replace h := od_pos h h28
    refine wq_top h28 ?_
    refine wq_tsw rfl (by decide) (tgt := 386) rfl ?_
    refine wq_iconst rfl rfl ?_
    exact wq_iret rfl (wm_zlt (by decide)) (Nat.blt_eq.mpr (by decide)) (wkOZ h hT (by decide))
  replace h := od_neg h h28
  have i29 : a0 < 35 ∨ 49 ≤ a0 := by omega
  clear i27
  by_cases h30 : a0 = 49
  case pos =>
    replace h := od_pos h h30
    refine wq_top h30 ?_
    refine wq_tsw rfl (by decide) (tgt := 386) rfl ?_
    refine wq_iconst rfl rfl ?_
    exact wq_iret rfl (wm_zlt (by decide)) (Nat.blt_eq.mpr (by decide)) (wkOZ h hT (by decide))
  replace h := od_neg h h30
  have i31 : a0 < 35 ∨ 50 ≤ a0 := by omega
  clear i29
  by_cases h32 : a0 = 50
  case pos =>
    replace h := od_pos h h32
    refine wq_top h32 ?_
    refine wq_tsw rfl (by decide) (tgt := 386) rfl ?_
    refine wq_iconst rfl rfl ?_
    exact wq_iret rfl (wm_zlt (by decide)) (Nat.blt_eq.mpr (by decide)) (wkOZ h hT (by decide))
  replace h := od_neg h h32
  have i33 : a0 < 35 ∨ 51 ≤ a0 := by omega
  clear i31
  by_cases h34 : a0 = 51
  case pos =>
    replace h := od_pos h h34
    refine wq_top h34 ?_
    refine wq_tsw rfl (by decide) (tgt := 386) rfl ?_
    refine wq_iconst rfl rfl ?_
    exact wq_iret rfl (wm_zlt (by decide)) (Nat.blt_eq.mpr (by decide)) (wkOZ h hT (by decide))
  replace h := od_neg h h34
  have i35 : a0 < 35 ∨ 52 ≤ a0 := by omega
  clear i33
  by_cases h36 : a0 = 52
  case pos =>
    replace h := od_pos h h36
    refine wq_top h36 ?_
    refine wq_tsw rfl (by decide) (tgt := 386) rfl ?_
    refine wq_iconst rfl rfl ?_
    exact wq_iret rfl (wm_zlt (by decide)) (Nat.blt_eq.mpr (by decide)) (wkOZ h hT (by decide))
  replace h := od_neg h h36
  have i37 : a0 < 35 ∨ 53 ≤ a0 := by omega
  clear i35
  by_cases h38 : a0 = 53
  case pos =>
    replace h := od_pos h h38
    refine wq_top h38 ?_
    refine wq_tsw rfl (by decide) (tgt := 386) rfl ?_
    refine wq_iconst rfl rfl ?_
    exact wq_iret rfl (wm_zlt (by decide)) (Nat.blt_eq.mpr (by decide)) (wkOZ h hT (by decide))
  replace h := od_neg h h38
  have i39 : a0 < 35 ∨ 54 ≤ a0 := by omega
  clear i37
  by_cases h40 : a0 = 54
  case pos =>
    replace h := od_pos h h40
    refine wq_top h40 ?_
    refine wq_tsw rfl (by decide) (tgt := 386) rfl ?_
    refine wq_iconst rfl rfl ?_
    exact wq_iret rfl (wm_zlt (by decide)) (Nat.blt_eq.mpr (by decide)) (wkOZ h hT (by decide))
  replace h := od_neg h h40
  have i41 : a0 < 35 ∨ 55 ≤ a0 := by omega
  clear i39
  by_cases h42 : a0 = 55
  case pos =>
    replace h := od_pos h h42
    refine wq_top h42 ?_
    refine wq_tsw rfl (by decide) (tgt := 386) rfl ?_
    refine wq_iconst rfl rfl ?_
    exact wq_iret rfl (wm_zlt (by decide)) (Nat.blt_eq.mpr (by decide)) (wkOZ h hT (by decide))
  replace h := od_neg h h42
  have i43 : a0 < 35 ∨ 56 ≤ a0 := by omega
  clear i41
  by_cases h44 : a0 = 56
  case pos =>
    replace h := od_pos h h44
    refine wq_top h44 ?_
    refine wq_tsw rfl (by decide) (tgt := 386) rfl ?_
    refine wq_iconst rfl rfl ?_
    exact wq_iret rfl (wm_zlt (by decide)) (Nat.blt_eq.mpr (by decide)) (wkOZ h hT (by decide))
  replace h := od_neg h h44
  have i45 : a0 < 35 ∨ 57 ≤ a0 := by omega
  clear i43
  by_cases h46 : a0 = 57
  case pos =>
    replace h := od_pos h h46
    refine wq_top h46 ?_
    refine wq_tsw rfl (by decide) (tgt := 386) rfl ?_
    refine wq_iconst rfl rfl ?_
    exact wq_iret rfl (wm_zlt (by decide)) (Nat.blt_eq.mpr (by decide)) (wkOZ h hT (by decide))
  replace h := od_neg h h46
  have i47 : a0 < 35 ∨ 58 ≤ a0 := by omega
  clear i45
  by_cases h48 : a0 = 58
  case pos =>
    replace h := od_pos h h48
    refine wq_top h48 ?_
    refine wq_tsw rfl (by decide) (tgt := 384) rfl ?_
    refine wq_iconst rfl rfl ?_
    exact wq_iret rfl (wm_zlt (by decide)) (Nat.blt_eq.mpr (by decide)) (wkOZ h hT (by decide))
  replace h := od_neg h h48
  have i49 : a0 < 35 ∨ 59 ≤ a0 := by omega
  clear i47
  by_cases h50 : a0 = 59
  case pos =>
    replace h := od_pos h h50
    refine wq_top h50 ?_
    refine wq_tsw rfl (by decide) (tgt := 384) rfl ?_
    refine wq_iconst rfl rfl ?_
    exact wq_iret rfl (wm_zlt (by decide)) (Nat.blt_eq.mpr (by decide)) (wkOZ h hT (by decide))
  replace h := od_neg h h50
  have i51 : a0 < 35 ∨ 60 ≤ a0 := by omega
  clear i49
  by_cases h52 : a0 = 60
  case pos =>
    replace h := od_pos h h52
    refine wq_top h52 ?_
    refine wq_tsw rfl (by decide) (tgt := 384) rfl ?_
    refine wq_iconst rfl rfl ?_
    exact wq_iret rfl (wm_zlt (by decide)) (Nat.blt_eq.mpr (by decide)) (wkOZ h hT (by decide))
  replace h := od_neg h h52
  have i53 : a0 < 35 ∨ 61 ≤ a0 := by omega
  clear i51
  by_cases h54 : a0 = 61
  case pos =>
    replace h := od_pos h h54
    refine wq_top h54 ?_
    refine wq_tsw rfl (by decide) (tgt := 384) rfl ?_
    refine wq_iconst rfl rfl ?_
    exact wq_iret rfl (wm_zlt (by decide)) (Nat.blt_eq.mpr (by decide)) (wkOZ h hT (by decide))
  replace h := od_neg h h54
  have i55 : a0 < 35 ∨ 62 ≤ a0 := by omega
  clear i53
  by_cases h56 : a0 = 62
  case pos =>
    replace h := od_pos h h56
    refine wq_top h56 ?_
    refine wq_tsw rfl (by decide) (tgt := 384) rfl ?_
    refine wq_iconst rfl rfl ?_
    exact wq_iret rfl (wm_zlt (by decide)) (Nat.blt_eq.mpr (by decide)) (wkOZ h hT (by decide))
  replace h := od_neg h h56
  have i57 : a0 < 35 ∨ 63 ≤ a0 := by omega
  clear i55
  by_cases h58 : a0 = 63
  case pos =>
    replace h := od_pos h h58
    refine wq_top h58 ?_
    refine wq_tsw rfl (by decide) (tgt := 386) rfl ?_
    refine wq_iconst rfl rfl ?_
    exact wq_iret rfl (wm_zlt (by decide)) (Nat.blt_eq.mpr (by decide)) (wkOZ h hT (by decide))
  replace h := od_neg h h58
  have i59 : a0 < 35 ∨ 64 ≤ a0 := by omega
  clear i57
  by_cases h60 : a0 = 64
  case pos =>
    replace h := od_pos h h60
    refine wq_top h60 ?_
    refine wq_tsw rfl (by decide) (tgt := 386) rfl ?_
    refine wq_iconst rfl rfl ?_
    exact wq_iret rfl (wm_zlt (by decide)) (Nat.blt_eq.mpr (by decide)) (wkOZ h hT (by decide))
  replace h := od_neg h h60
  have i61 : a0 < 35 ∨ 65 ≤ a0 := by omega
  clear i59
  by_cases h62 : a0 = 65
  case pos =>
    replace h := od_pos h h62
    refine wq_top h62 ?_
    refine wq_tsw rfl (by decide) (tgt := 386) rfl ?_
    refine wq_iconst rfl rfl ?_
    exact wq_iret rfl (wm_zlt (by decide)) (Nat.blt_eq.mpr (by decide)) (wkOZ h hT (by decide))
  replace h := od_neg h h62
  have i63 : a0 < 35 ∨ 66 ≤ a0 := by omega
  clear i61
  by_cases h64 : a0 = 66
  case pos =>
    replace h := od_pos h h64
    refine wq_top h64 ?_
    refine wq_tsw rfl (by decide) (tgt := 386) rfl ?_
    refine wq_iconst rfl rfl ?_
    exact wq_iret rfl (wm_zlt (by decide)) (Nat.blt_eq.mpr (by decide)) (wkOZ h hT (by decide))
  replace h := od_neg h h64
  have i65 : a0 < 35 ∨ 67 ≤ a0 := by omega
  clear i63
  by_cases h66 : a0 = 67
  case pos =>
    replace h := od_pos h h66
    refine wq_top h66 ?_
    refine wq_tsw rfl (by decide) (tgt := 386) rfl ?_
    refine wq_iconst rfl rfl ?_
    exact wq_iret rfl (wm_zlt (by decide)) (Nat.blt_eq.mpr (by decide)) (wkOZ h hT (by decide))
  replace h := od_neg h h66
  have i67 : a0 < 35 ∨ 68 ≤ a0 := by omega
  clear i65
  by_cases h68 : a0 = 68
  case pos =>
    replace h := od_pos h h68
    refine wq_top h68 ?_
    refine wq_tsw rfl (by decide) (tgt := 386) rfl ?_
    refine wq_iconst rfl rfl ?_
    exact wq_iret rfl (wm_zlt (by decide)) (Nat.blt_eq.mpr (by decide)) (wkOZ h hT (by decide))
  replace h := od_neg h h68
  have i69 : a0 < 35 ∨ 69 ≤ a0 := by omega
  clear i67
  by_cases h70 : a0 = 69
  case pos =>
    replace h := od_pos h h70
    refine wq_top h70 ?_
    refine wq_tsw rfl (by decide) (tgt := 386) rfl ?_
    refine wq_iconst rfl rfl ?_
    exact wq_iret rfl (wm_zlt (by decide)) (Nat.blt_eq.mpr (by decide)) (wkOZ h hT (by decide))
  replace h := od_neg h h70
  have i71 : a0 < 35 ∨ 70 ≤ a0 := by omega
  clear i69
  by_cases h72 : a0 = 70
  case pos =>
    replace h := od_pos h h72
    refine wq_top h72 ?_
    refine wq_tsw rfl (by decide) (tgt := 386) rfl ?_
    refine wq_iconst rfl rfl ?_
    exact wq_iret rfl (wm_zlt (by decide)) (Nat.blt_eq.mpr (by decide)) (wkOZ h hT (by decide))
  replace h := od_neg h h72
  have i73 : a0 < 35 ∨ 71 ≤ a0 := by omega
  clear i71
  by_cases h74 : a0 = 71
  case pos =>
    replace h := od_pos h h74
    refine wq_top h74 ?_
    refine wq_tsw rfl (by decide) (tgt := 386) rfl ?_
    refine wq_iconst rfl rfl ?_
    exact wq_iret rfl (wm_zlt (by decide)) (Nat.blt_eq.mpr (by decide)) (wkOZ h hT (by decide))
  replace h := od_neg h h74
  have i75 : a0 < 35 ∨ 72 ≤ a0 := by omega
  clear i73
  by_cases h76 : a0 = 72
  case pos =>
    replace h := od_pos h h76
    refine wq_top h76 ?_
    refine wq_tsw rfl (by decide) (tgt := 386) rfl ?_
    refine wq_iconst rfl rfl ?_
    exact wq_iret rfl (wm_zlt (by decide)) (Nat.blt_eq.mpr (by decide)) (wkOZ h hT (by decide))
  replace h := od_neg h h76
  have i77 : a0 < 35 ∨ 73 ≤ a0 := by omega
  clear i75
  by_cases h78 : a0 = 73
  case pos =>
    replace h := od_pos h h78
    refine wq_top h78 ?_
    refine wq_tsw rfl (by decide) (tgt := 386) rfl ?_
    refine wq_iconst rfl rfl ?_
    exact wq_iret rfl (wm_zlt (by decide)) (Nat.blt_eq.mpr (by decide)) (wkOZ h hT (by decide))
  replace h := od_neg h h78
  have i79 : a0 < 35 ∨ 74 ≤ a0 := by omega
  clear i77
  by_cases h80 : a0 = 74
  case pos =>
    replace h := od_pos h h80
    refine wq_top h80 ?_
    refine wq_tsw rfl (by decide) (tgt := 386) rfl ?_
    refine wq_iconst rfl rfl ?_
    exact wq_iret rfl (wm_zlt (by decide)) (Nat.blt_eq.mpr (by decide)) (wkOZ h hT (by decide))
  replace h := od_neg h h80
  have i81 : a0 < 35 ∨ 75 ≤ a0 := by omega
  clear i79
  by_cases h82 : a0 = 75
  case pos =>
    replace h := od_pos h h82
    refine wq_top h82 ?_
    refine wq_tsw rfl (by decide) (tgt := 386) rfl ?_
    refine wq_iconst rfl rfl ?_
    exact wq_iret rfl (wm_zlt (by decide)) (Nat.blt_eq.mpr (by decide)) (wkOZ h hT (by decide))
  replace h := od_neg h h82
  have i83 : a0 < 35 ∨ 76 ≤ a0 := by omega
  clear i81
  by_cases h84 : a0 = 76
  case pos =>
    replace h := od_pos h h84
    refine wq_top h84 ?_
    refine wq_tsw rfl (by decide) (tgt := 386) rfl ?_
    refine wq_iconst rfl rfl ?_
    exact wq_iret rfl (wm_zlt (by decide)) (Nat.blt_eq.mpr (by decide)) (wkOZ h hT (by decide))
  replace h := od_neg h h84
  have i85 : a0 < 35 ∨ 77 ≤ a0 := by omega
  clear i83
  by_cases h86 : a0 = 77
  case pos =>
    replace h := od_pos h h86
    refine wq_top h86 ?_
    refine wq_tsw rfl (by decide) (tgt := 386) rfl ?_
    refine wq_iconst rfl rfl ?_
    exact wq_iret rfl (wm_zlt (by decide)) (Nat.blt_eq.mpr (by decide)) (wkOZ h hT (by decide))
  replace h := od_neg h h86
  have i87 : a0 < 35 ∨ 78 ≤ a0 := by omega
  clear i85
  by_cases h88 : a0 = 78
  case pos =>
    replace h := od_pos h h88
    refine wq_top h88 ?_
    refine wq_tsw rfl (by decide) (tgt := 386) rfl ?_
    refine wq_iconst rfl rfl ?_
    exact wq_iret rfl (wm_zlt (by decide)) (Nat.blt_eq.mpr (by decide)) (wkOZ h hT (by decide))
  replace h := od_neg h h88
  have i89 : a0 < 35 ∨ 79 ≤ a0 := by omega
  clear i87
  by_cases h90 : a0 = 79
  case pos =>
    replace h := od_pos h h90
    refine wq_top h90 ?_
    refine wq_tsw rfl (by decide) (tgt := 386) rfl ?_
    refine wq_iconst rfl rfl ?_
    exact wq_iret rfl (wm_zlt (by decide)) (Nat.blt_eq.mpr (by decide)) (wkOZ h hT (by decide))
  replace h := od_neg h h90
  have i91 : a0 < 35 ∨ 80 ≤ a0 := by omega
  clear i89
  by_cases h92 : a0 = 80
  case pos =>
    replace h := od_pos h h92
    refine wq_top h92 ?_
    refine wq_tsw rfl (by decide) (tgt := 386) rfl ?_
    refine wq_iconst rfl rfl ?_
    exact wq_iret rfl (wm_zlt (by decide)) (Nat.blt_eq.mpr (by decide)) (wkOZ h hT (by decide))
  replace h := od_neg h h92
  have i93 : a0 < 35 ∨ 81 ≤ a0 := by omega
  clear i91
  by_cases h94 : a0 = 81
  case pos =>
    replace h := od_pos h h94
    refine wq_top h94 ?_
    refine wq_tsw rfl (by decide) (tgt := 386) rfl ?_
    refine wq_iconst rfl rfl ?_
    exact wq_iret rfl (wm_zlt (by decide)) (Nat.blt_eq.mpr (by decide)) (wkOZ h hT (by decide))
  replace h := od_neg h h94
  have i95 : a0 < 35 ∨ 82 ≤ a0 := by omega
  clear i93
  by_cases h96 : a0 = 82
  case pos =>
    replace h := od_pos h h96
    refine wq_top h96 ?_
    refine wq_tsw rfl (by decide) (tgt := 386) rfl ?_
    refine wq_iconst rfl rfl ?_
    exact wq_iret rfl (wm_zlt (by decide)) (Nat.blt_eq.mpr (by decide)) (wkOZ h hT (by decide))
  replace h := od_neg h h96
  have i97 : a0 < 35 ∨ 83 ≤ a0 := by omega
  clear i95
  by_cases h98 : a0 = 83
  case pos =>
    replace h := od_pos h h98
    refine wq_top h98 ?_
    refine wq_tsw rfl (by decide) (tgt := 386) rfl ?_
    refine wq_iconst rfl rfl ?_
    exact wq_iret rfl (wm_zlt (by decide)) (Nat.blt_eq.mpr (by decide)) (wkOZ h hT (by decide))
  replace h := od_neg h h98
  have i99 : a0 < 35 ∨ 84 ≤ a0 := by omega
  clear i97
  by_cases h100 : a0 = 84
  case pos =>
    replace h := od_pos h h100
    refine wq_top h100 ?_
    refine wq_tsw rfl (by decide) (tgt := 386) rfl ?_
    refine wq_iconst rfl rfl ?_
    exact wq_iret rfl (wm_zlt (by decide)) (Nat.blt_eq.mpr (by decide)) (wkOZ h hT (by decide))
  replace h := od_neg h h100
  have i101 : a0 < 35 ∨ 85 ≤ a0 := by omega
  clear i99
  by_cases h102 : a0 = 85
  case pos =>
    replace h := od_pos h h102
    refine wq_top h102 ?_
    refine wq_tsw rfl (by decide) (tgt := 386) rfl ?_
    refine wq_iconst rfl rfl ?_
    exact wq_iret rfl (wm_zlt (by decide)) (Nat.blt_eq.mpr (by decide)) (wkOZ h hT (by decide))
  replace h := od_neg h h102
  have i103 : a0 < 35 ∨ 86 ≤ a0 := by omega
  clear i101
  by_cases h104 : a0 = 86
  case pos =>
    replace h := od_pos h h104
    refine wq_top h104 ?_
    refine wq_tsw rfl (by decide) (tgt := 386) rfl ?_
    refine wq_iconst rfl rfl ?_
    exact wq_iret rfl (wm_zlt (by decide)) (Nat.blt_eq.mpr (by decide)) (wkOZ h hT (by decide))
  replace h := od_neg h h104
  have i105 : a0 < 35 ∨ 87 ≤ a0 := by omega
  clear i103
  by_cases h106 : a0 = 87
  case pos =>
    replace h := od_pos h h106
    refine wq_top h106 ?_
    refine wq_tsw rfl (by decide) (tgt := 386) rfl ?_
    refine wq_iconst rfl rfl ?_
    exact wq_iret rfl (wm_zlt (by decide)) (Nat.blt_eq.mpr (by decide)) (wkOZ h hT (by decide))
  replace h := od_neg h h106
  have i107 : a0 < 35 ∨ 88 ≤ a0 := by omega
  clear i105
  by_cases h108 : a0 = 88
  case pos =>
    replace h := od_pos h h108
    refine wq_top h108 ?_
    refine wq_tsw rfl (by decide) (tgt := 386) rfl ?_
    refine wq_iconst rfl rfl ?_
    exact wq_iret rfl (wm_zlt (by decide)) (Nat.blt_eq.mpr (by decide)) (wkOZ h hT (by decide))
  replace h := od_neg h h108
  have i109 : a0 < 35 ∨ 89 ≤ a0 := by omega
  clear i107
  by_cases h110 : a0 = 89
  case pos =>
    replace h := od_pos h h110
    refine wq_top h110 ?_
    refine wq_tsw rfl (by decide) (tgt := 386) rfl ?_
    refine wq_iconst rfl rfl ?_
    exact wq_iret rfl (wm_zlt (by decide)) (Nat.blt_eq.mpr (by decide)) (wkOZ h hT (by decide))
  replace h := od_neg h h110
  have i111 : a0 < 35 ∨ 90 ≤ a0 := by omega
  clear i109
  by_cases h112 : a0 = 90
  case pos =>
    replace h := od_pos h h112
    refine wq_top h112 ?_
    refine wq_tsw rfl (by decide) (tgt := 386) rfl ?_
    refine wq_iconst rfl rfl ?_
    exact wq_iret rfl (wm_zlt (by decide)) (Nat.blt_eq.mpr (by decide)) (wkOZ h hT (by decide))
  replace h := od_neg h h112
  have i113 : a0 < 35 ∨ 91 ≤ a0 := by omega
  clear i111
  by_cases h114 : a0 = 91
  case pos =>
    replace h := od_pos h h114
    refine wq_top h114 ?_
    refine wq_tsw rfl (by decide) (tgt := 384) rfl ?_
    refine wq_iconst rfl rfl ?_
    exact wq_iret rfl (wm_zlt (by decide)) (Nat.blt_eq.mpr (by decide)) (wkOZ h hT (by decide))
  replace h := od_neg h h114
  have i115 : a0 < 35 ∨ 92 ≤ a0 := by omega
  clear i113
  by_cases h116 : a0 = 92
  case pos =>
    replace h := od_pos h h116
    refine wq_top h116 ?_
    refine wq_tsw rfl (by decide) (tgt := 386) rfl ?_
    refine wq_iconst rfl rfl ?_
    exact wq_iret rfl (wm_zlt (by decide)) (Nat.blt_eq.mpr (by decide)) (wkOZ h hT (by decide))
  replace h := od_neg h h116
  have i117 : a0 < 35 ∨ 93 ≤ a0 := by omega
  clear i115
  by_cases h118 : a0 = 93
  case pos =>
    replace h := od_pos h h118
    refine wq_top h118 ?_
    refine wq_tsw rfl (by decide) (tgt := 384) rfl ?_
    refine wq_iconst rfl rfl ?_
    exact wq_iret rfl (wm_zlt (by decide)) (Nat.blt_eq.mpr (by decide)) (wkOZ h hT (by decide))
  replace h := od_neg h h118
  have i119 : a0 < 35 ∨ 94 ≤ a0 := by omega
  clear i117
  by_cases h120 : a0 = 94
  case pos =>
    replace h := od_pos h h120
    refine wq_top h120 ?_
    refine wq_tsw rfl (by decide) (tgt := 386) rfl ?_
    refine wq_iconst rfl rfl ?_
    exact wq_iret rfl (wm_zlt (by decide)) (Nat.blt_eq.mpr (by decide)) (wkOZ h hT (by decide))
  replace h := od_neg h h120
  have i121 : a0 < 35 ∨ 95 ≤ a0 := by omega
  clear i119
  by_cases h122 : a0 = 95
  case pos =>
    replace h := od_pos h h122
    refine wq_top h122 ?_
    refine wq_tsw rfl (by decide) (tgt := 386) rfl ?_
    refine wq_iconst rfl rfl ?_
    exact wq_iret rfl (wm_zlt (by decide)) (Nat.blt_eq.mpr (by decide)) (wkOZ h hT (by decide))
  replace h := od_neg h h122
  have i123 : a0 < 35 ∨ 96 ≤ a0 := by omega
  clear i121
  by_cases h124 : a0 = 96
  case pos =>
    replace h := od_pos h h124
    refine wq_top h124 ?_
    refine wq_tsw rfl (by decide) (tgt := 386) rfl ?_
    refine wq_iconst rfl rfl ?_
    exact wq_iret rfl (wm_zlt (by decide)) (Nat.blt_eq.mpr (by decide)) (wkOZ h hT (by decide))
  replace h := od_neg h h124
  have i125 : a0 < 35 ∨ 97 ≤ a0 := by omega
  clear i123
  by_cases h126 : a0 = 97
  case pos =>
    replace h := od_pos h h126
    refine wq_top h126 ?_
    refine wq_tsw rfl (by decide) (tgt := 386) rfl ?_
    refine wq_iconst rfl rfl ?_
    exact wq_iret rfl (wm_zlt (by decide)) (Nat.blt_eq.mpr (by decide)) (wkOZ h hT (by decide))
  replace h := od_neg h h126
  have i127 : a0 < 35 ∨ 98 ≤ a0 := by omega
  clear i125
  by_cases h128 : a0 = 98
  case pos =>
    replace h := od_pos h h128
    refine wq_top h128 ?_
    refine wq_tsw rfl (by decide) (tgt := 386) rfl ?_
    refine wq_iconst rfl rfl ?_
    exact wq_iret rfl (wm_zlt (by decide)) (Nat.blt_eq.mpr (by decide)) (wkOZ h hT (by decide))
  replace h := od_neg h h128
  have i129 : a0 < 35 ∨ 99 ≤ a0 := by omega
  clear i127
  by_cases h130 : a0 = 99
  case pos =>
    replace h := od_pos h h130
    refine wq_top h130 ?_
    refine wq_tsw rfl (by decide) (tgt := 386) rfl ?_
    refine wq_iconst rfl rfl ?_
    exact wq_iret rfl (wm_zlt (by decide)) (Nat.blt_eq.mpr (by decide)) (wkOZ h hT (by decide))
  replace h := od_neg h h130
  have i131 : a0 < 35 ∨ 100 ≤ a0 := by omega
  clear i129
  by_cases h132 : a0 = 100
  case pos =>
    replace h := od_pos h h132
    refine wq_top h132 ?_
    refine wq_tsw rfl (by decide) (tgt := 386) rfl ?_
    refine wq_iconst rfl rfl ?_
    exact wq_iret rfl (wm_zlt (by decide)) (Nat.blt_eq.mpr (by decide)) (wkOZ h hT (by decide))
  replace h := od_neg h h132
  have i133 : a0 < 35 ∨ 101 ≤ a0 := by omega
  clear i131
  by_cases h134 : a0 = 101
  case pos =>
    replace h := od_pos h h134
    refine wq_top h134 ?_
    refine wq_tsw rfl (by decide) (tgt := 386) rfl ?_
    refine wq_iconst rfl rfl ?_
    exact wq_iret rfl (wm_zlt (by decide)) (Nat.blt_eq.mpr (by decide)) (wkOZ h hT (by decide))
  replace h := od_neg h h134
  have i135 : a0 < 35 ∨ 102 ≤ a0 := by omega
  clear i133
  by_cases h136 : a0 = 102
  case pos =>
    replace h := od_pos h h136
    refine wq_top h136 ?_
    refine wq_tsw rfl (by decide) (tgt := 386) rfl ?_
    refine wq_iconst rfl rfl ?_
    exact wq_iret rfl (wm_zlt (by decide)) (Nat.blt_eq.mpr (by decide)) (wkOZ h hT (by decide))
  replace h := od_neg h h136
  have i137 : a0 < 35 ∨ 103 ≤ a0 := by omega
  clear i135
  by_cases h138 : a0 = 103
  case pos =>
    replace h := od_pos h h138
    refine wq_top h138 ?_
    refine wq_tsw rfl (by decide) (tgt := 386) rfl ?_
    refine wq_iconst rfl rfl ?_
    exact wq_iret rfl (wm_zlt (by decide)) (Nat.blt_eq.mpr (by decide)) (wkOZ h hT (by decide))
  replace h := od_neg h h138
  have i139 : a0 < 35 ∨ 104 ≤ a0 := by omega
  clear i137
  by_cases h140 : a0 = 104
  case pos =>
    replace h := od_pos h h140
    refine wq_top h140 ?_
    refine wq_tsw rfl (by decide) (tgt := 386) rfl ?_
    refine wq_iconst rfl rfl ?_
    exact wq_iret rfl (wm_zlt (by decide)) (Nat.blt_eq.mpr (by decide)) (wkOZ h hT (by decide))
  replace h := od_neg h h140
  have i141 : a0 < 35 ∨ 105 ≤ a0 := by omega
  clear i139
  by_cases h142 : a0 = 105
  case pos =>
    replace h := od_pos h h142
    refine wq_top h142 ?_
    refine wq_tsw rfl (by decide) (tgt := 386) rfl ?_
    refine wq_iconst rfl rfl ?_
    exact wq_iret rfl (wm_zlt (by decide)) (Nat.blt_eq.mpr (by decide)) (wkOZ h hT (by decide))
  replace h := od_neg h h142
  have i143 : a0 < 35 ∨ 106 ≤ a0 := by omega
  clear i141
  by_cases h144 : a0 = 106
  case pos =>
    replace h := od_pos h h144
    refine wq_top h144 ?_
    refine wq_tsw rfl (by decide) (tgt := 386) rfl ?_
    refine wq_iconst rfl rfl ?_
    exact wq_iret rfl (wm_zlt (by decide)) (Nat.blt_eq.mpr (by decide)) (wkOZ h hT (by decide))
  replace h := od_neg h h144
  have i145 : a0 < 35 ∨ 107 ≤ a0 := by omega
  clear i143
  by_cases h146 : a0 = 107
  case pos =>
    replace h := od_pos h h146
    refine wq_top h146 ?_
    refine wq_tsw rfl (by decide) (tgt := 386) rfl ?_
    refine wq_iconst rfl rfl ?_
    exact wq_iret rfl (wm_zlt (by decide)) (Nat.blt_eq.mpr (by decide)) (wkOZ h hT (by decide))
  replace h := od_neg h h146
  have i147 : a0 < 35 ∨ 108 ≤ a0 := by omega
  clear i145
  by_cases h148 : a0 = 108
  case pos =>
    replace h := od_pos h h148
    refine wq_top h148 ?_
    refine wq_tsw rfl (by decide) (tgt := 386) rfl ?_
    refine wq_iconst rfl rfl ?_
    exact wq_iret rfl (wm_zlt (by decide)) (Nat.blt_eq.mpr (by decide)) (wkOZ h hT (by decide))
  replace h := od_neg h h148
  have i149 : a0 < 35 ∨ 109 ≤ a0 := by omega
  clear i147
  by_cases h150 : a0 = 109
  case pos =>
    replace h := od_pos h h150
    refine wq_top h150 ?_
    refine wq_tsw rfl (by decide) (tgt := 386) rfl ?_
    refine wq_iconst rfl rfl ?_
    exact wq_iret rfl (wm_zlt (by decide)) (Nat.blt_eq.mpr (by decide)) (wkOZ h hT (by decide))
  replace h := od_neg h h150
  have i151 : a0 < 35 ∨ 110 ≤ a0 := by omega
  clear i149
  by_cases h152 : a0 = 110
  case pos =>
    replace h := od_pos h h152
    refine wq_top h152 ?_
    refine wq_tsw rfl (by decide) (tgt := 386) rfl ?_
    refine wq_iconst rfl rfl ?_
    exact wq_iret rfl (wm_zlt (by decide)) (Nat.blt_eq.mpr (by decide)) (wkOZ h hT (by decide))
  replace h := od_neg h h152
  have i153 : a0 < 35 ∨ 111 ≤ a0 := by omega
  clear i151
  by_cases h154 : a0 = 111
  case pos =>
    replace h := od_pos h h154
    refine wq_top h154 ?_
    refine wq_tsw rfl (by decide) (tgt := 386) rfl ?_
    refine wq_iconst rfl rfl ?_
    exact wq_iret rfl (wm_zlt (by decide)) (Nat.blt_eq.mpr (by decide)) (wkOZ h hT (by decide))
  replace h := od_neg h h154
  have i155 : a0 < 35 ∨ 112 ≤ a0 := by omega
  clear i153
  by_cases h156 : a0 = 112
  case pos =>
    replace h := od_pos h h156
    refine wq_top h156 ?_
    refine wq_tsw rfl (by decide) (tgt := 386) rfl ?_
    refine wq_iconst rfl rfl ?_
    exact wq_iret rfl (wm_zlt (by decide)) (Nat.blt_eq.mpr (by decide)) (wkOZ h hT (by decide))
  replace h := od_neg h h156
  have i157 : a0 < 35 ∨ 113 ≤ a0 := by omega
  clear i155
  by_cases h158 : a0 = 113
  case pos =>
    replace h := od_pos h h158
    refine wq_top h158 ?_
    refine wq_tsw rfl (by decide) (tgt := 386) rfl ?_
    refine wq_iconst rfl rfl ?_
    exact wq_iret rfl (wm_zlt (by decide)) (Nat.blt_eq.mpr (by decide)) (wkOZ h hT (by decide))
  replace h := od_neg h h158
  have i159 : a0 < 35 ∨ 114 ≤ a0 := by omega
  clear i157
  by_cases h160 : a0 = 114
  case pos =>
    replace h := od_pos h h160
    refine wq_top h160 ?_
    refine wq_tsw rfl (by decide) (tgt := 386) rfl ?_
    refine wq_iconst rfl rfl ?_
    exact wq_iret rfl (wm_zlt (by decide)) (Nat.blt_eq.mpr (by decide)) (wkOZ h hT (by decide))
  replace h := od_neg h h160
  have i161 : a0 < 35 ∨ 115 ≤ a0 := by omega
  clear i159
  by_cases h162 : a0 = 115
  case pos =>
    replace h := od_pos h h162
    refine wq_top h162 ?_
    refine wq_tsw rfl (by decide) (tgt := 386) rfl ?_
    refine wq_iconst rfl rfl ?_
    exact wq_iret rfl (wm_zlt (by decide)) (Nat.blt_eq.mpr (by decide)) (wkOZ h hT (by decide))
  replace h := od_neg h h162
  have i163 : a0 < 35 ∨ 116 ≤ a0 := by omega
  clear i161
  by_cases h164 : a0 = 116
  case pos =>
    replace h := od_pos h h164
    refine wq_top h164 ?_
    refine wq_tsw rfl (by decide) (tgt := 386) rfl ?_
    refine wq_iconst rfl rfl ?_
    exact wq_iret rfl (wm_zlt (by decide)) (Nat.blt_eq.mpr (by decide)) (wkOZ h hT (by decide))
  replace h := od_neg h h164
  have i165 : a0 < 35 ∨ 117 ≤ a0 := by omega
  clear i163
  by_cases h166 : a0 = 117
  case pos =>
    replace h := od_pos h h166
    refine wq_top h166 ?_
    refine wq_tsw rfl (by decide) (tgt := 386) rfl ?_
    refine wq_iconst rfl rfl ?_
    exact wq_iret rfl (wm_zlt (by decide)) (Nat.blt_eq.mpr (by decide)) (wkOZ h hT (by decide))
  replace h := od_neg h h166
  have i167 : a0 < 35 ∨ 118 ≤ a0 := by omega
  clear i165
  by_cases h168 : a0 = 118
  case pos =>
    replace h := od_pos h h168
    refine wq_top h168 ?_
    refine wq_tsw rfl (by decide) (tgt := 386) rfl ?_
    refine wq_iconst rfl rfl ?_
    exact wq_iret rfl (wm_zlt (by decide)) (Nat.blt_eq.mpr (by decide)) (wkOZ h hT (by decide))
  replace h := od_neg h h168
  have i169 : a0 < 35 ∨ 119 ≤ a0 := by omega
  clear i167
  by_cases h170 : a0 = 119
  case pos =>
    replace h := od_pos h h170
    refine wq_top h170 ?_
    refine wq_tsw rfl (by decide) (tgt := 386) rfl ?_
    refine wq_iconst rfl rfl ?_
    exact wq_iret rfl (wm_zlt (by decide)) (Nat.blt_eq.mpr (by decide)) (wkOZ h hT (by decide))
  replace h := od_neg h h170
  have i171 : a0 < 35 ∨ 120 ≤ a0 := by omega
  clear i169
  by_cases h172 : a0 = 120
  case pos =>
    replace h := od_pos h h172
    refine wq_top h172 ?_
    refine wq_tsw rfl (by decide) (tgt := 386) rfl ?_
    refine wq_iconst rfl rfl ?_
    exact wq_iret rfl (wm_zlt (by decide)) (Nat.blt_eq.mpr (by decide)) (wkOZ h hT (by decide))
  replace h := od_neg h h172
  have i173 : a0 < 35 ∨ 121 ≤ a0 := by omega
  clear i171
  by_cases h174 : a0 = 121
  case pos =>
    replace h := od_pos h h174
    refine wq_top h174 ?_
    refine wq_tsw rfl (by decide) (tgt := 386) rfl ?_
    refine wq_iconst rfl rfl ?_
    exact wq_iret rfl (wm_zlt (by decide)) (Nat.blt_eq.mpr (by decide)) (wkOZ h hT (by decide))
  replace h := od_neg h h174
  have i175 : a0 < 35 ∨ 122 ≤ a0 := by omega
  clear i173
  by_cases h176 : a0 = 122
  case pos =>
    replace h := od_pos h h176
    refine wq_top h176 ?_
    refine wq_tsw rfl (by decide) (tgt := 386) rfl ?_
    refine wq_iconst rfl rfl ?_
    exact wq_iret rfl (wm_zlt (by decide)) (Nat.blt_eq.mpr (by decide)) (wkOZ h hT (by decide))
  replace h := od_neg h h176
  have i177 : a0 < 35 ∨ 123 ≤ a0 := by omega
  clear i175
  by_cases h178 : a0 = 123
  case pos =>
    replace h := od_pos h h178
    refine wq_top h178 ?_
    refine wq_tsw rfl (by decide) (tgt := 384) rfl ?_
    refine wq_iconst rfl rfl ?_
    exact wq_iret rfl (wm_zlt (by decide)) (Nat.blt_eq.mpr (by decide)) (wkOZ h hT (by decide))
  replace h := od_neg h h178
  have i179 : a0 < 35 ∨ 124 ≤ a0 := by omega
  clear i177
  by_cases h180 : a0 = 124
  case pos =>
    replace h := od_pos h h180
    refine wq_top h180 ?_
    refine wq_tsw rfl (by decide) (tgt := 384) rfl ?_
    refine wq_iconst rfl rfl ?_
    exact wq_iret rfl (wm_zlt (by decide)) (Nat.blt_eq.mpr (by decide)) (wkOZ h hT (by decide))
  replace h := od_neg h h180
  have i181 : a0 < 35 ∨ 125 ≤ a0 := by omega
  clear i179
  by_cases h182 : a0 = 125
  case pos =>
    replace h := od_pos h h182
    refine wq_top h182 ?_
    refine wq_tsw rfl (by decide) (tgt := 384) rfl ?_
    refine wq_iconst rfl rfl ?_
    exact wq_iret rfl (wm_zlt (by decide)) (Nat.blt_eq.mpr (by decide)) (wkOZ h hT (by decide))
  replace h := od_neg h h182
  have i183 : a0 < 35 ∨ 126 ≤ a0 := by omega
  clear i181
  by_cases h184 : a0 = 126
  case pos =>
    replace h := od_pos h h184
    refine wq_top h184 ?_
    refine wq_tsw rfl (by decide) (tgt := 384) rfl ?_
    refine wq_iconst rfl rfl ?_
    exact wq_iret rfl (wm_zlt (by decide)) (Nat.blt_eq.mpr (by decide)) (wkOZ h hT (by decide))
  replace h := od_neg h h184
  have i185 : a0 < 35 ∨ 127 ≤ a0 := by omega
  clear i183
  refine wq_tswD rfl ha0 (by unfold ev_si ev_s; omega) rfl (tgt := 386) rfl ?_
  refine wq_iconst rfl rfl ?_
  exact wq_iret rfl (wm_zlt (by decide)) (Nat.blt_eq.mpr (by decide)) (wkOZ h hT (by decide))
def dk_208_93 (F : wq_F) (v1 : Nat) (v2 : Nat) (s0 : Nat) : Option (Nat × wq_F) :=
  od_up F 0 67 s0 fun F1 =>
  od_up F1 0 68 (ev_oI2l v2) fun F4 =>
  od_up F4 0 69 ((v1 + 1) % 4294967296) fun F7 =>
  some (0, F7)
theorem dk_208_93T {d : Nat} : ∀ ⦃u3 : Nat⦄ ⦃F : wq_F⦄ (hT : wm_T F) ⦃v1 : Nat⦄ (hv1 : v1 < 4294967296) ⦃v2 : Nat⦄ (hv2 : v2 < 4294967296) ⦃s0 : Nat⦄ (hs0 : s0 < 4294967296) (hu3 : ev_isL u3 = false) ⦃x : Nat × wq_F⦄ (h : dk_208_93 F v1 v2 s0 = some x), wq (wq_cf (d + 1)) (ev_un al_mX12_readSign.2.2.2.2) none 93 [36893488147419103232, v1, v2, u3] [s0, 36893488147419103232] wm_sh F 0 0 (wkN wm_T wm_sh x) := by
  intro u3 F hT v1 hv1 v2 hv2 s0 hs0 hu3 x h
  unfold dk_208_93 at h
  obtain ⟨F1, e2, h⟩ := od_upE h
  refine wmE_put rfl (by decide) (wq_I hs0) e2 ?_
  have T3 : wm_T F1 := wd_T e2 (hT.uf (f := 67) (c := 0) (v := s0) rfl (show s0 < 4294967296 from hs0))
  refine wq_aload_n rfl rfl rfl ?_
  refine wq_iload_n rfl rfl hv2 ?_
  refine wq_i2l rfl hv2 ?_
  obtain ⟨F4, e5, h⟩ := od_upE h
  refine wmE_put rfl (by decide) (wq_i2l_L hv2) e5 ?_
  have T6 : wm_T F4 := wd_T e5 (T3.uf (f := 68) (c := 10) (v := ev_oI2l v2) rfl (show ev_isL (ev_oI2l v2) = true from (wq_i2l_L hv2)))
  refine wq_aload_n rfl rfl rfl ?_
  refine wq_iload_n rfl rfl hv1 ?_
  refine wq_iconst rfl rfl ?_
  refine wq_iaddZ rfl hv1 (wm_zlt (by decide)) (z := (v1 + 1) % 4294967296) rfl ?_
  obtain ⟨F7, e8, h⟩ := od_upE h
  refine wmE_put rfl (by decide) (wq_I (Nat.mod_lt _ (by decide))) e8 ?_
  have T9 : wm_T F7 := wd_T e8 (T6.uf (f := 69) (c := 0) (v := (v1 + 1) % 4294967296) rfl (show (v1 + 1) % 4294967296 < 4294967296 from (Nat.mod_lt _ (by decide))))
  exact wq_ret rfl (wkON h T9)
def dk_208_59 (F : wq_F) (v1 : Nat) (v2 : Nat) (v3 : Nat) : Option (Nat × wq_F) :=
  if 0 < v3 ∧ v3 < 2147483648 then
    od_up F 0 68 (ev_oI2l v3) fun F7 =>
    od_up F7 0 69 ((v1 + 2) % 4294967296) fun F10 =>
    some (0, F10)
  else
    (dk_207 F v2).bind fun y2 =>
    if y2.1 = 0 then
      dk_208_93 y2.2 v1 v2 7
    else
      dk_208_93 y2.2 v1 v2 5
theorem dk_208_59T {d : Nat} : ∀ ⦃F : wq_F⦄ (hT : wm_T F) ⦃v1 : Nat⦄ (hv1 : v1 < 4294967296) ⦃v2 : Nat⦄ (hv2 : v2 < 4294967296) ⦃v3 : Nat⦄ (hv3 : v3 < 4294967296) ⦃x : Nat × wq_F⦄ (h : dk_208_59 F v1 v2 v3 = some x), wq (wq_cf (d + 1)) (ev_un al_mX12_readSign.2.2.2.2) none 59 [36893488147419103232, v1, v2, v3] [] wm_sh F 0 0 (wkN wm_T wm_sh x) := by
  intro F hT v1 hv1 v2 hv2 v3 hv3 x h
  unfold dk_208_59 at h
  refine wq_iload_n rfl rfl hv3 ?_
  refine wq_if_le rfl rfl hv3 (fun h1 => ?_) (fun h1 => ?_)
  · replace h := od_neg h h1
    refine wq_aload_n rfl rfl rfl ?_
    refine wq_iload_n rfl rfl hv2 ?_
    obtain ⟨y2, e3, h⟩ := od_bindE h
    refine wd_statZ (y := y2) (as := [v2]) rfl (by decide) (Nat.le_of_ble_eq_true rfl) rfl (Nat.le_of_ble_eq_true rfl) rfl (dkT_207 hT hv2 e3) (fun p4 T5 => ?_)
    refine wq_if_eq rfl rfl (wm_zlt p4) (fun h6 => ?_) (fun h6 => ?_)
    · replace h := od_pos h h6
      refine wq_bipush rfl rfl ?_
      exact dk_208_93T T5 hv1 hv2 (by decide) (wq_notL hv3) h
    · replace h := od_neg h h6
      refine wq_iconst rfl rfl ?_
      refine wq_goto rfl rfl ?_
      exact dk_208_93T T5 hv1 hv2 (by decide) (wq_notL hv3) h
  · replace h := od_pos h h1
    refine wq_aload_n rfl rfl rfl ?_
    refine wq_iload_n rfl rfl hv3 ?_
    refine wq_i2l rfl hv3 ?_
    obtain ⟨F7, e8, h⟩ := od_upE h
    refine wmE_put rfl (by decide) (wq_i2l_L hv3) e8 ?_
    have T9 : wm_T F7 := wd_T e8 (hT.uf (f := 68) (c := 10) (v := ev_oI2l v3) rfl (show ev_isL (ev_oI2l v3) = true from (wq_i2l_L hv3)))
    refine wq_aload_n rfl rfl rfl ?_
    refine wq_iload_n rfl rfl hv1 ?_
    refine wq_iconst rfl rfl ?_
    refine wq_iaddZ rfl hv1 (by decide) (z := (v1 + 2) % 4294967296) rfl ?_
    obtain ⟨F10, e11, h⟩ := od_upE h
    refine wmE_put rfl (by decide) (wq_I (Nat.mod_lt _ (by decide))) e11 ?_
    have T12 : wm_T F10 := wd_T e11 (T9.uf (f := 69) (c := 0) (v := (v1 + 2) % 4294967296) rfl (show (v1 + 2) % 4294967296 < 4294967296 from (Nat.mod_lt _ (by decide))))
    refine wq_goto rfl rfl ?_
    exact wq_ret rfl (wkON h T12)
/-- X12_readSign -/
def dk_208 (F : wq_F) (a0 : Nat) : Option (Nat × wq_F) :=
  (dk_28 F a0).bind fun y1 =>
  (dk_28 y1.2 ((a0 + 1) % 4294967296)).bind fun y5 =>
  (dk_206 y5.2 y1.1 y5.1).bind fun y9 =>
  od_up y9.2 0 67 5 fun F13 =>
  if y9.1 = 300 then
    (dk_28 F13 ((a0 + 2) % 4294967296)).bind fun y17 =>
    if y17.1 = 46 then
      od_up y17.2 0 68 18446744073709551917 fun F22 =>
      od_up F22 0 69 ((a0 + 3) % 4294967296) fun F25 =>
      some (0, F25)
    else
      dk_208_59 y17.2 a0 y1.1 y9.1
  else
    dk_208_59 F13 a0 y1.1 y9.1
theorem dkT_208 {d : Nat} {F : wq_F} (hT : wm_T F) {a0 : Nat} (ha0 : a0 < 4294967296) {x : Nat × wq_F} (h : dk_208 F a0 = some x) : mq (d + 1 + 1) 208 [36893488147419103232, a0] wm_sh F (wkN wm_T wm_sh x) := by
  have e : ev_ent [36893488147419103232, a0] = [36893488147419103232, a0] := by
    show 36893488147419103232 :: ev_ent [a0] = _
    rw [wm_entI ha0]
    rfl
  refine mq_of (maxL := 4) (rt := none) (code := (ev_un al_mX12_readSign.2.2.2.2)) (L := [36893488147419103232, a0, 73786976294838206464, 73786976294838206464]) rfl (by rw [e]; exact Nat.le_of_ble_eq_true rfl) (by rw [e]; rfl) ?_
  unfold dk_208 at h
  refine wq_aload_n rfl rfl rfl ?_
  refine wq_iload_n rfl rfl ha0 ?_
  obtain ⟨y1, e2, h⟩ := od_bindE h
  refine wd_virtI (q := 0) (y := y1) (as := [36893488147419103232, a0]) rfl rfl rfl (by decide) (Nat.le_of_ble_eq_true rfl) (Nat.le_of_ble_eq_true rfl) rfl (Nat.le_of_ble_eq_true rfl) rfl (dkT_28 hT ha0 e2) (fun p3 T4 => ?_)
  refine wq_istore_n rfl p3 (Nat.le_of_ble_eq_true rfl) (Or.inr ⟨_, rfl, (wq_notL ha0)⟩) (L' := [36893488147419103232, a0, y1.1, 73786976294838206464]) rfl ?_
  refine wq_iload_n rfl rfl p3 ?_
  refine wq_aload_n rfl rfl rfl ?_
  refine wq_iload_n rfl rfl ha0 ?_
  refine wq_iconst rfl rfl ?_
  refine wq_iaddZ rfl ha0 (wm_zlt (by decide)) (z := (a0 + 1) % 4294967296) rfl ?_
  obtain ⟨y5, e6, h⟩ := od_bindE h
  refine wd_virtI (q := 0) (y := y5) (as := [36893488147419103232, (a0 + 1) % 4294967296]) rfl rfl rfl (by decide) (Nat.le_of_ble_eq_true rfl) (Nat.le_of_ble_eq_true rfl) rfl (Nat.le_of_ble_eq_true rfl) rfl (dkT_28 T4 (Nat.mod_lt _ (by decide)) e6) (fun p7 T8 => ?_)
  obtain ⟨y9, e10, h⟩ := od_bindE h
  refine wd_statI (y := y9) (as := [y1.1, y5.1]) rfl (by decide) (Nat.le_of_ble_eq_true rfl) rfl (Nat.le_of_ble_eq_true rfl) rfl (dkT_206 T8 p3 p7 e10) (fun p11 T12 => ?_)
  refine wq_istore_n rfl p11 (Nat.le_of_ble_eq_true rfl) (Or.inr ⟨_, rfl, (wq_notL p3)⟩) (L' := [36893488147419103232, a0, y1.1, y9.1]) rfl ?_
  refine wq_aload_n rfl rfl rfl ?_
  refine wq_iconst rfl rfl ?_
  obtain ⟨F13, e14, h⟩ := od_upE h
  refine wmE_put rfl (by decide) (wq_I (by decide)) e14 ?_
  have T15 : wm_T F13 := wd_T e14 (T12.uf (f := 67) (c := 0) (v := 5) rfl (show 5 < 4294967296 from (by decide)))
  refine wq_iload_n rfl rfl p11 ?_
  refine wq_sipush rfl rfl ?_
  refine wq_ic_ne rfl rfl p11 (by decide) (fun h16 => ?_) (fun h16 => ?_)
  · replace h := od_neg h h16
    exact dk_208_59T T15 ha0 p3 p11 h
  · replace h := od_pos h h16
    refine wq_aload_n rfl rfl rfl ?_
    refine wq_iload_n rfl rfl ha0 ?_
    refine wq_iconst rfl rfl ?_
    refine wq_iaddZ rfl ha0 (by decide) (z := (a0 + 2) % 4294967296) rfl ?_
    obtain ⟨y17, e18, h⟩ := od_bindE h
    refine wd_virtI (q := 0) (y := y17) (as := [36893488147419103232, (a0 + 2) % 4294967296]) rfl rfl rfl (by decide) (Nat.le_of_ble_eq_true rfl) (Nat.le_of_ble_eq_true rfl) rfl (Nat.le_of_ble_eq_true rfl) rfl (dkT_28 T15 (Nat.mod_lt _ (by decide)) e18) (fun p19 T20 => ?_)
    refine wq_bipush rfl rfl ?_
    refine wq_ic_ne rfl rfl p19 (by decide) (fun h21 => ?_) (fun h21 => ?_)
    · replace h := od_neg h h21
      exact dk_208_59T T20 ha0 p3 p11 h
    · replace h := od_pos h h21
      refine wq_aload_n rfl rfl rfl ?_
      refine wq_ldc2 rfl (by decide) ?_
      obtain ⟨F22, e23, h⟩ := od_upE h
      refine wmE_put rfl (by decide) rfl e23 ?_
      have T24 : wm_T F22 := wd_T e23 (T20.uf (f := 68) (c := 10) (v := 18446744073709551917) rfl (show ev_isL 18446744073709551917 = true from rfl))
      refine wq_aload_n rfl rfl rfl ?_
      refine wq_iload_n rfl rfl ha0 ?_
      refine wq_iconst rfl rfl ?_
      refine wq_iaddZ rfl ha0 (by decide) (z := (a0 + 3) % 4294967296) rfl ?_
      obtain ⟨F25, e26, h⟩ := od_upE h
      refine wmE_put rfl (by decide) (wq_I (Nat.mod_lt _ (by decide))) e26 ?_
      have T27 : wm_T F25 := wd_T e26 (T24.uf (f := 69) (c := 0) (v := (a0 + 3) % 4294967296) rfl (show (a0 + 3) % 4294967296 < 4294967296 from (Nat.mod_lt _ (by decide))))
      refine wq_goto rfl rfl ?_
      exact wq_ret rfl (wkON h T27)
def dk_26_170 (n : Nat) (r13 : wq_F → Nat → Nat → Option (Nat × wq_F)) (F : wq_F) (v1 : Nat) (s0 : Nat) : Option (Nat × wq_F) :=
  if s0 = 0 then
    r13 F v1 s0
  else
    (dk_27 F (F 0 69)).bind fun y2 =>
    r13 y2.2 y2.1 s0
theorem dk_26_170T {d n : Nat} {r13 : wq_F → Nat → Nat → Option (Nat × wq_F)} (hr13 : ∀ ⦃u3 : Nat⦄ ⦃F : wq_F⦄ (hT : wm_T F) ⦃v1 : Nat⦄ (hv1 : v1 < 4294967296) ⦃v2 : Nat⦄ (hv2 : v2 < 2) (hu3 : ev_isL u3 = false) ⦃x : Nat × wq_F⦄ (h : r13 F v1 v2 = some x), wq (wq_cf (d + 3)) (ev_un al_mX12_readTokens.2.2.2.2) none 13 [36893488147419103232, v1, v2, u3] [] wm_sh F 0 0 (wkN wm_T wm_sh x)) : ∀ ⦃u2 : Nat⦄ ⦃u3 : Nat⦄ ⦃F : wq_F⦄ (hT : wm_T F) ⦃v1 : Nat⦄ (hv1 : v1 < 4294967296) ⦃s0 : Nat⦄ (hs0 : s0 < 2) (hu2 : ev_isL u2 = false) (hu3 : ev_isL u3 = false) ⦃x : Nat × wq_F⦄ (h : dk_26_170 n r13 F v1 s0 = some x), wq (wq_cf (d + 3)) (ev_un al_mX12_readTokens.2.2.2.2) none 170 [36893488147419103232, v1, u2, u3] [s0] wm_sh F 0 0 (wkN wm_T wm_sh x) := by
  intro u2 u3 F hT v1 hv1 s0 hs0 hu2 hu3 x h
  unfold dk_26_170 at h
  refine wq_istore_n rfl (wm_zlt hs0) (Nat.le_of_ble_eq_true rfl) (Or.inr ⟨_, rfl, (wq_notL hv1)⟩) (L' := [36893488147419103232, v1, s0, u3]) rfl ?_
  refine wq_iload_n rfl rfl (wm_zlt hs0) ?_
  refine wq_if_eq rfl rfl (wm_zlt hs0) (fun h1 => ?_) (fun h1 => ?_)
  · replace h := od_pos h h1
    refine wq_iload_n rfl rfl hv1 ?_
    refine wq_istore_n rfl hv1 (Nat.le_of_ble_eq_true rfl) (Or.inr ⟨_, rfl, rfl⟩) (L' := [36893488147419103232, v1, s0, u3]) rfl ?_
    refine wq_goto rfl rfl ?_
    exact hr13 hT hv1 hs0 hu3 h
  · replace h := od_neg h h1
    refine wq_aload_n rfl rfl rfl ?_
    refine wq_aload_n rfl rfl rfl ?_
    refine wm_getI rfl (by decide) ?_
    obtain ⟨y2, e3, h⟩ := od_bindE h
    refine wd_virtI (q := 0) (y := y2) (as := [36893488147419103232, F 0 69]) rfl rfl rfl (by decide) (Nat.le_of_ble_eq_true rfl) (Nat.le_of_ble_eq_true rfl) rfl (Nat.le_of_ble_eq_true rfl) rfl (dkT_27 hT (hT.i 69 rfl) e3) (fun p4 T5 => ?_)
    refine wq_goto rfl rfl ?_
    refine wq_istore_n rfl p4 (Nat.le_of_ble_eq_true rfl) (Or.inr ⟨_, rfl, rfl⟩) (L' := [36893488147419103232, y2.1, s0, u3]) rfl ?_
    refine wq_goto rfl rfl ?_
    exact hr13 T5 p4 hs0 hu3 h
def dk_26_91 (n : Nat) (r13 : wq_F → Nat → Nat → Option (Nat × wq_F)) (F : wq_F) (v1 : Nat) : Option (Nat × wq_F) :=
  od_g (F 0 24 < 1502) <|
  od_up F 9 (F 0 24) (F 0 67) fun F2 =>
  od_g (F2 0 24 < 1502) <|
  od_up F2 10 (F2 0 24) v1 fun F6 =>
  od_g (F6 0 24 < 1502) <|
  od_up F6 11 (F6 0 24) (((F6 0 68) - 18446744073709551616)) fun F10 =>
  od_let (((F10 0 24) + 1) % 4294967296) fun y13 =>
  od_up F10 0 24 y13 fun F16 =>
  if (F16 0 67) = 6 then
    dk_26_170 n r13 F16 v1 0
  else
    if (F16 0 67) = 7 then
      dk_26_170 n r13 F16 v1 0
    else
      if ev_s 1500 < ev_s (F16 0 24) then
        dk_26_170 n r13 F16 v1 0
      else
        dk_26_170 n r13 F16 v1 1
theorem dk_26_91T {d n : Nat} {r13 : wq_F → Nat → Nat → Option (Nat × wq_F)} (hr13 : ∀ ⦃u3 : Nat⦄ ⦃F : wq_F⦄ (hT : wm_T F) ⦃v1 : Nat⦄ (hv1 : v1 < 4294967296) ⦃v2 : Nat⦄ (hv2 : v2 < 2) (hu3 : ev_isL u3 = false) ⦃x : Nat × wq_F⦄ (h : r13 F v1 v2 = some x), wq (wq_cf (d + 3)) (ev_un al_mX12_readTokens.2.2.2.2) none 13 [36893488147419103232, v1, v2, u3] [] wm_sh F 0 0 (wkN wm_T wm_sh x)) : ∀ ⦃u2 : Nat⦄ ⦃u3 : Nat⦄ ⦃F : wq_F⦄ (hT : wm_T F) ⦃v1 : Nat⦄ (hv1 : v1 < 4294967296) (hu2 : ev_isL u2 = false) (hu3 : ev_isL u3 = false) ⦃x : Nat × wq_F⦄ (h : dk_26_91 n r13 F v1 = some x), wq (wq_cf (d + 3)) (ev_un al_mX12_readTokens.2.2.2.2) none 91 [36893488147419103232, v1, u2, u3] [] wm_sh F 0 0 (wkN wm_T wm_sh x) := by
  intro u2 u3 F hT v1 hv1 hu2 hu3 x h
  unfold dk_26_91 at h
  refine wq_aload_n rfl rfl rfl ?_
  refine wm_getR (v := 36893488147419103241) rfl (by decide) (hT.r 21 8 rfl) ?_
  refine wq_aload_n rfl rfl rfl ?_
  refine wm_getI rfl (by decide) ?_
  refine wq_aload_n rfl rfl rfl ?_
  refine wm_getI rfl (by decide) ?_
  obtain ⟨g1, h⟩ := od_gE h
  obtain ⟨F2, e3, h⟩ := od_upE h
  refine wd_iastore (q := 9) (n := 1502) rfl rfl (by decide) g1 (by decide) (hT.i 67 rfl) e3 ?_
  have T4 : wm_T F2 := wd_T e3 (hT.ua (k := 9) (kd := 1000) (n := 1502) (i := F 0 24) (v := F 0 67) rfl (by decide) g1 (show F 0 67 < 4294967296 from (hT.i 67 rfl)))
  refine wq_aload_n rfl rfl rfl ?_
  refine wm_getR (v := 36893488147419103242) rfl (by decide) (T4.r 22 9 rfl) ?_
  refine wq_aload_n rfl rfl rfl ?_
  refine wm_getI rfl (by decide) ?_
  refine wq_iload_n rfl rfl hv1 ?_
  obtain ⟨g5, h⟩ := od_gE h
  obtain ⟨F6, e7, h⟩ := od_upE h
  refine wd_iastore (q := 10) (n := 1502) rfl rfl (by decide) g5 (by decide) hv1 e7 ?_
  have T8 : wm_T F6 := wd_T e7 (T4.ua (k := 10) (kd := 1000) (n := 1502) (i := F2 0 24) (v := v1) rfl (by decide) g5 (show v1 < 4294967296 from hv1))
  refine wq_aload_n rfl rfl rfl ?_
  refine wm_getR (v := 36893488147419103243) rfl (by decide) (T8.r 23 10 rfl) ?_
  refine wq_aload_n rfl rfl rfl ?_
  refine wm_getI rfl (by decide) ?_
  refine wq_aload_n rfl rfl rfl ?_
  refine wm_getI rfl (by decide) ?_
  obtain ⟨g9, h⟩ := od_gE h
  obtain ⟨F10, e11, h⟩ := od_upE h
  refine wd_lastore (q := 11) (n := 1502) rfl rfl (by decide) g9 (by decide) (T8.l 68 rfl) e11 ?_
  have T12 : wm_T F10 := wd_T e11 (T8.ua (k := 11) (kd := 1010) (n := 1502) (i := F6 0 24) (v := ((F6 0 68) - 18446744073709551616)) rfl (by decide) g9 (wm_subL (T8.l 68 rfl)))
  refine wq_aload_n rfl rfl rfl ?_
  refine wq_dup rfl rfl ?_
  refine wm_getI rfl (by decide) ?_
  refine wq_iconst rfl rfl ?_
  refine wq_iaddZ rfl (T12.i 24 rfl) (wm_zlt (by decide)) (z := ((F10 0 24) + 1) % 4294967296) rfl ?_
  obtain ⟨y13, e14, h⟩ := od_letE h
  refine wq_top e14.symm ?_
  have p15 : y13 < 4294967296 := wd_lt e14 (Nat.mod_lt _ (by decide))
  obtain ⟨F16, e17, h⟩ := od_upE h
  refine wmE_put rfl (by decide) (wq_I p15) e17 ?_
  have T18 : wm_T F16 := wd_T e17 (T12.uf (f := 24) (c := 0) (v := y13) rfl (show y13 < 4294967296 from p15))
  refine wq_aload_n rfl rfl rfl ?_
  refine wm_getI rfl (by decide) ?_
  refine wq_bipush rfl rfl ?_
  refine wq_ic_eq rfl rfl (T18.i 67 rfl) (by decide) (fun h19 => ?_) (fun h19 => ?_)
  · replace h := od_pos h h19
    refine wq_iconst rfl rfl ?_
    exact dk_26_170T hr13 T18 hv1 (by decide) hu2 hu3 h
  · replace h := od_neg h h19
    refine wq_aload_n rfl rfl rfl ?_
    refine wm_getI rfl (by decide) ?_
    refine wq_bipush rfl rfl ?_
    refine wq_ic_eq rfl rfl (T18.i 67 rfl) (by decide) (fun h20 => ?_) (fun h20 => ?_)
    · replace h := od_pos h h20
      refine wq_iconst rfl rfl ?_
      exact dk_26_170T hr13 T18 hv1 (by decide) hu2 hu3 h
    · replace h := od_neg h h20
      refine wq_aload_n rfl rfl rfl ?_
      refine wm_getI rfl (by decide) ?_
      refine wq_sipush rfl rfl ?_
      refine wq_ic_gt rfl rfl (T18.i 24 rfl) (by decide) (fun h21 => ?_) (fun h21 => ?_)
      · replace h := od_pos h h21
        refine wq_iconst rfl rfl ?_
        exact dk_26_170T hr13 T18 hv1 (by decide) hu2 hu3 h
      · replace h := od_neg h (Nat.not_lt.mpr h21)
        refine wq_iconst rfl rfl ?_
        refine wq_goto rfl rfl ?_
        exact dk_26_170T hr13 T18 hv1 (by decide) hu2 hu3 h
def dk_26_13b (n : Nat) (r13 : wq_F → Nat → Nat → Option (Nat × wq_F)) (F : wq_F) (v1 : Nat) (v2 : Nat) : Option (Nat × wq_F) :=
  if v2 = 0 then
    some (0, F)
  else
    (dk_28 F v1).bind fun y2 =>
    if 2147483648 ≤ y2.1 then
      od_up y2.2 0 67 6 fun F39 =>
      dk_26_91 n r13 F39 v1
    else
      (dk_197 y2.2 y2.1).bind fun y7 =>
      if y7.1 = 0 then
        (dk_198 y7.2 y2.1).bind fun y12 =>
        if y12.1 = 0 then
          if y2.1 = 34 then
            (dk_205 n y12.2 v1).bind fun y18 =>
            dk_26_91 n r13 y18.2 v1
          else
            if y2.1 = 39 then
              (dk_205 n y12.2 v1).bind fun y27 =>
              dk_26_91 n r13 y27.2 v1
            else
              (dk_208 y12.2 v1).bind fun y23 =>
              dk_26_91 n r13 y23.2 v1
        else
          (dk_203 y12.2 v1).bind fun y31 =>
          dk_26_91 n r13 y31.2 v1
      else
        (dk_202 n y7.2 v1).bind fun y35 =>
        dk_26_91 n r13 y35.2 v1
theorem dk_26_13bT {d n : Nat} {r13 : wq_F → Nat → Nat → Option (Nat × wq_F)} (hr13 : ∀ ⦃u3 : Nat⦄ ⦃F : wq_F⦄ (hT : wm_T F) ⦃v1 : Nat⦄ (hv1 : v1 < 4294967296) ⦃v2 : Nat⦄ (hv2 : v2 < 2) (hu3 : ev_isL u3 = false) ⦃x : Nat × wq_F⦄ (h : r13 F v1 v2 = some x), wq (wq_cf (d + 3)) (ev_un al_mX12_readTokens.2.2.2.2) none 13 [36893488147419103232, v1, v2, u3] [] wm_sh F 0 0 (wkN wm_T wm_sh x)) : ∀ ⦃u3 : Nat⦄ ⦃F : wq_F⦄ (hT : wm_T F) ⦃v1 : Nat⦄ (hv1 : v1 < 4294967296) ⦃v2 : Nat⦄ (hv2 : v2 < 2) (hu3 : ev_isL u3 = false) ⦃x : Nat × wq_F⦄ (h : dk_26_13b n r13 F v1 v2 = some x), wq (wq_cf (d + 3)) (ev_un al_mX12_readTokens.2.2.2.2) none 13 [36893488147419103232, v1, v2, u3] [] wm_sh F 0 0 (wkN wm_T wm_sh x) := by
  intro u3 F hT v1 hv1 v2 hv2 hu3 x h
  unfold dk_26_13b at h
  refine wq_iload_n rfl rfl (wm_zlt hv2) ?_
  refine wq_if_eq rfl rfl (wm_zlt hv2) (fun h1 => ?_) (fun h1 => ?_)
  · replace h := od_pos h h1
    exact wq_ret rfl (wkON h hT)
  · replace h := od_neg h h1
    refine wq_aload_n rfl rfl rfl ?_
    refine wq_iload_n rfl rfl hv1 ?_
    obtain ⟨y2, e3, h⟩ := od_bindE h
    refine wd_virtI (q := 0) (y := y2) (as := [36893488147419103232, v1]) rfl rfl rfl (by decide) (Nat.le_of_ble_eq_true rfl) (Nat.le_of_ble_eq_true rfl) rfl (Nat.le_of_ble_eq_true rfl) rfl (dkT_28 hT hv1 e3) (fun p4 T5 => ?_)
    refine wq_istore_n rfl p4 (Nat.le_of_ble_eq_true rfl) (Or.inr ⟨_, rfl, (wq_notL (wm_zlt hv2))⟩) (L' := [36893488147419103232, v1, v2, y2.1]) rfl ?_
    refine wq_iload_n rfl rfl p4 ?_
    refine wq_if_ge rfl rfl p4 (fun h6 => ?_) (fun h6 => ?_)
    · replace h := od_neg h (Nat.not_le.mpr h6)
      refine wq_iload_n rfl rfl p4 ?_
      obtain ⟨y7, e8, h⟩ := od_bindE h
      refine wd_statZ (y := y7) (as := [y2.1]) rfl (by decide) (Nat.le_of_ble_eq_true rfl) rfl (Nat.le_of_ble_eq_true rfl) rfl (dkT_197 T5 p4 e8) (fun p9 T10 => ?_)
      refine wq_if_eq rfl rfl (wm_zlt p9) (fun h11 => ?_) (fun h11 => ?_)
      · replace h := od_pos h h11
        refine wq_iload_n rfl rfl p4 ?_
        obtain ⟨y12, e13, h⟩ := od_bindE h
        refine wd_statZ (y := y12) (as := [y2.1]) rfl (by decide) (Nat.le_of_ble_eq_true rfl) rfl (Nat.le_of_ble_eq_true rfl) rfl (dkT_198 T10 p4 e13) (fun p14 T15 => ?_)
        refine wq_if_eq rfl rfl (wm_zlt p14) (fun h16 => ?_) (fun h16 => ?_)
        · replace h := od_pos h h16
          refine wq_iload_n rfl rfl p4 ?_
          refine wq_bipush rfl rfl ?_
          refine wq_ic_eq rfl rfl p4 (by decide) (fun h17 => ?_) (fun h17 => ?_)
          · replace h := od_pos h h17
            refine wq_aload_n rfl rfl rfl ?_
            refine wq_iload_n rfl rfl hv1 ?_
            obtain ⟨y18, e19, h⟩ := od_bindE h
            refine wd_virtN (q := 0) (y := y18) (as := [36893488147419103232, v1]) rfl rfl rfl (by decide) (Nat.le_of_ble_eq_true rfl) (Nat.le_of_ble_eq_true rfl) rfl (Nat.le_of_ble_eq_true rfl) rfl (dkT_205 T15 hv1 e19) (fun T21 => ?_)
            refine wq_goto rfl rfl ?_
            exact dk_26_91T hr13 T21 hv1 (wq_notL (wm_zlt hv2)) (wq_notL p4) h
          · replace h := od_neg h h17
            refine wq_iload_n rfl rfl p4 ?_
            refine wq_bipush rfl rfl ?_
            refine wq_ic_ne rfl rfl p4 (by decide) (fun h22 => ?_) (fun h22 => ?_)
            · replace h := od_neg h h22
              refine wq_aload_n rfl rfl rfl ?_
              refine wq_iload_n rfl rfl hv1 ?_
              obtain ⟨y23, e24, h⟩ := od_bindE h
              refine wd_virtN (q := 0) (y := y23) (as := [36893488147419103232, v1]) rfl rfl rfl (by decide) (Nat.le_of_ble_eq_true rfl) (Nat.le_of_ble_eq_true rfl) rfl (Nat.le_of_ble_eq_true rfl) rfl (dkT_208 T15 hv1 e24) (fun T26 => ?_)
              exact dk_26_91T hr13 T26 hv1 (wq_notL (wm_zlt hv2)) (wq_notL p4) h
            · replace h := od_pos h h22
              refine wq_aload_n rfl rfl rfl ?_
              refine wq_iload_n rfl rfl hv1 ?_
              obtain ⟨y27, e28, h⟩ := od_bindE h
              refine wd_virtN (q := 0) (y := y27) (as := [36893488147419103232, v1]) rfl rfl rfl (by decide) (Nat.le_of_ble_eq_true rfl) (Nat.le_of_ble_eq_true rfl) rfl (Nat.le_of_ble_eq_true rfl) rfl (dkT_205 T15 hv1 e28) (fun T30 => ?_)
              refine wq_goto rfl rfl ?_
              exact dk_26_91T hr13 T30 hv1 (wq_notL (wm_zlt hv2)) (wq_notL p4) h
        · replace h := od_neg h h16
          refine wq_aload_n rfl rfl rfl ?_
          refine wq_iload_n rfl rfl hv1 ?_
          obtain ⟨y31, e32, h⟩ := od_bindE h
          refine wd_virtN (q := 0) (y := y31) (as := [36893488147419103232, v1]) rfl rfl rfl (by decide) (Nat.le_of_ble_eq_true rfl) (Nat.le_of_ble_eq_true rfl) rfl (Nat.le_of_ble_eq_true rfl) rfl (dkT_203 T15 hv1 e32) (fun T34 => ?_)
          refine wq_goto rfl rfl ?_
          exact dk_26_91T hr13 T34 hv1 (wq_notL (wm_zlt hv2)) (wq_notL p4) h
      · replace h := od_neg h h11
        refine wq_aload_n rfl rfl rfl ?_
        refine wq_iload_n rfl rfl hv1 ?_
        obtain ⟨y35, e36, h⟩ := od_bindE h
        refine wd_virtN (q := 0) (y := y35) (as := [36893488147419103232, v1]) rfl rfl rfl (by decide) (Nat.le_of_ble_eq_true rfl) (Nat.le_of_ble_eq_true rfl) rfl (Nat.le_of_ble_eq_true rfl) rfl (dkT_202 T10 hv1 e36) (fun T38 => ?_)
        refine wq_goto rfl rfl ?_
        exact dk_26_91T hr13 T38 hv1 (wq_notL (wm_zlt hv2)) (wq_notL p4) h
    · replace h := od_pos h h6
      refine wq_aload_n rfl rfl rfl ?_
      refine wq_bipush rfl rfl ?_
      obtain ⟨F39, e40, h⟩ := od_upE h
      refine wmE_put rfl (by decide) (wq_I (by decide)) e40 ?_
      have T41 : wm_T F39 := wd_T e40 (T5.uf (f := 67) (c := 0) (v := 6) rfl (show 6 < 4294967296 from (by decide)))
      refine wq_goto rfl rfl ?_
      exact dk_26_91T hr13 T41 hv1 (wq_notL (wm_zlt hv2)) (wq_notL p4) h
def dk_26_13 (n : Nat) : Nat → wq_F → Nat → Nat → Option (Nat × wq_F)
  | 0 => fun _ _ _ => none
  | g + 1 => dk_26_13b n (dk_26_13 n g)
theorem dk_26_13T {d n : Nat} : ∀ g : Nat, ∀ ⦃u3 : Nat⦄ ⦃F : wq_F⦄ (hT : wm_T F) ⦃v1 : Nat⦄ (hv1 : v1 < 4294967296) ⦃v2 : Nat⦄ (hv2 : v2 < 2) (hu3 : ev_isL u3 = false) ⦃x : Nat × wq_F⦄ (h : dk_26_13 n g F v1 v2 = some x), wq (wq_cf (d + 3)) (ev_un al_mX12_readTokens.2.2.2.2) none 13 [36893488147419103232, v1, v2, u3] [] wm_sh F 0 0 (wkN wm_T wm_sh x)
  | 0 => by
    intro u3 F hT v1 hv1 v2 hv2 hu3 x h
    cases h
  | g + 1 => dk_26_13bT (dk_26_13T g)
/-- X12_readTokens -/
def dk_26 (n : Nat) (F : wq_F) : Option (Nat × wq_F) :=
  od_up F 0 24 0 fun F1 =>
  (dk_27 F1 0).bind fun y4 =>
  dk_26_13 n n y4.2 y4.1 1
theorem dkT_26 {d n : Nat} {F : wq_F} (hT : wm_T F) {x : Nat × wq_F} (h : dk_26 n F = some x) : mq (d + 3 + 1) 26 [36893488147419103232] wm_sh F (wkN wm_T wm_sh x) := by
  have e : ev_ent [36893488147419103232] = [36893488147419103232] := by
    rfl
  refine mq_of (maxL := 4) (rt := none) (code := (ev_un al_mX12_readTokens.2.2.2.2)) (L := [36893488147419103232, 73786976294838206464, 73786976294838206464, 73786976294838206464]) rfl (by rw [e]; exact Nat.le_of_ble_eq_true rfl) (by rw [e]; rfl) ?_
  unfold dk_26 at h
  refine wq_aload_n rfl rfl rfl ?_
  refine wq_iconst rfl rfl ?_
  obtain ⟨F1, e2, h⟩ := od_upE h
  refine wmE_put rfl (by decide) (wq_I (wm_zlt (by decide))) e2 ?_
  have T3 : wm_T F1 := wd_T e2 (hT.uf (f := 24) (c := 0) (v := 0) rfl (show 0 < 4294967296 from (wm_zlt (by decide))))
  refine wq_aload_n rfl rfl rfl ?_
  refine wq_iconst rfl rfl ?_
  obtain ⟨y4, e5, h⟩ := od_bindE h
  refine wd_virtI (q := 0) (y := y4) (as := [36893488147419103232, 0]) rfl rfl rfl (by decide) (Nat.le_of_ble_eq_true rfl) (Nat.le_of_ble_eq_true rfl) rfl (Nat.le_of_ble_eq_true rfl) rfl (dkT_27 T3 (wm_zlt (by decide)) e5) (fun p6 T7 => ?_)
  refine wq_istore_n rfl p6 (Nat.le_of_ble_eq_true rfl) (Or.inr ⟨_, rfl, rfl⟩) (L' := [36893488147419103232, y4.1, 73786976294838206464, 73786976294838206464]) rfl ?_
  refine wq_iconst rfl rfl ?_
  refine wq_istore_n rfl (wm_zlt (by decide)) (Nat.le_of_ble_eq_true rfl) (Or.inr ⟨_, rfl, (wq_notL p6)⟩) (L' := [36893488147419103232, y4.1, 1, 73786976294838206464]) rfl ?_
  exact dk_26_13T n T7 p6 (by decide) rfl h
/-- X12_emit -/
def dk_30 (F : wq_F) (a0 : Nat) (a1 : Nat) (a2 : Nat) (a3 : Nat) : Option (Nat × wq_F) :=
  od_g (F 0 41 < 14000) <|
  od_up F 20 (F 0 41) a0 fun F2 =>
  od_g (F2 0 41 < 14000) <|
  od_up F2 21 (F2 0 41) a1 fun F6 =>
  od_g (F6 0 41 < 14000) <|
  od_up F6 22 (F6 0 41) a2 fun F10 =>
  od_g (F10 0 41 < 14000) <|
  od_up F10 23 (F10 0 41) a3 fun F14 =>
  od_let (((F14 0 41) + 1) % 4294967296) fun y17 =>
  od_up F14 0 41 y17 fun F20 =>
  od_let (((F20 0 41) + (4294967296 - 1)) % 4294967296) fun y23 =>
  some (y23, F20)
theorem dkT_30 {d : Nat} {F : wq_F} (hT : wm_T F) {a0 : Nat} (ha0 : a0 < 4294967296) {a1 : Nat} (ha1 : a1 < 4294967296) {a2 : Nat} (ha2 : a2 < 4294967296) {a3 : Nat} (ha3 : a3 < 4294967296) {x : Nat × wq_F} (h : dk_30 F a0 a1 a2 a3 = some x) : mq (d + 0 + 1) 30 [36893488147419103232, a0, a1, a2, a3] wm_sh F (wkI wm_T wm_sh x) := by
  have e : ev_ent [36893488147419103232, a0, a1, a2, a3] = [36893488147419103232, a0, a1, a2, a3] := by
    show 36893488147419103232 :: ev_ent [a0, a1, a2, a3] = _
    rw [wm_entI ha0, wm_entI ha1, wm_entI ha2, wm_entI ha3]
    rfl
  refine mq_of (maxL := 5) (rt := (some .int)) (code := (ev_un al_mX12_emit.2.2.2.2)) (L := [36893488147419103232, a0, a1, a2, a3]) rfl (by rw [e]; exact Nat.le_of_ble_eq_true rfl) (by rw [e]; rfl) ?_
  unfold dk_30 at h
  refine wq_aload_n rfl rfl rfl ?_
  refine wm_getR (v := 36893488147419103252) rfl (by decide) (hT.r 35 19 rfl) ?_
  refine wq_aload_n rfl rfl rfl ?_
  refine wm_getI rfl (by decide) ?_
  refine wq_iload_n rfl rfl ha0 ?_
  obtain ⟨g1, h⟩ := od_gE h
  obtain ⟨F2, e3, h⟩ := od_upE h
  refine wd_iastore (q := 20) (n := 14000) rfl rfl (by decide) g1 (by decide) ha0 e3 ?_
  have T4 : wm_T F2 := wd_T e3 (hT.ua (k := 20) (kd := 1000) (n := 14000) (i := F 0 41) (v := a0) rfl (by decide) g1 (show a0 < 4294967296 from ha0))
  refine wq_aload_n rfl rfl rfl ?_
  refine wm_getR (v := 36893488147419103253) rfl (by decide) (T4.r 36 20 rfl) ?_
  refine wq_aload_n rfl rfl rfl ?_
  refine wm_getI rfl (by decide) ?_
  refine wq_iload_n rfl rfl ha1 ?_
  obtain ⟨g5, h⟩ := od_gE h
  obtain ⟨F6, e7, h⟩ := od_upE h
  refine wd_iastore (q := 21) (n := 14000) rfl rfl (by decide) g5 (by decide) ha1 e7 ?_
  have T8 : wm_T F6 := wd_T e7 (T4.ua (k := 21) (kd := 1000) (n := 14000) (i := F2 0 41) (v := a1) rfl (by decide) g5 (show a1 < 4294967296 from ha1))
  refine wq_aload_n rfl rfl rfl ?_
  refine wm_getR (v := 36893488147419103254) rfl (by decide) (T8.r 37 21 rfl) ?_
  refine wq_aload_n rfl rfl rfl ?_
  refine wm_getI rfl (by decide) ?_
  refine wq_iload_n rfl rfl ha2 ?_
  obtain ⟨g9, h⟩ := od_gE h
  obtain ⟨F10, e11, h⟩ := od_upE h
  refine wd_iastore (q := 22) (n := 14000) rfl rfl (by decide) g9 (by decide) ha2 e11 ?_
  have T12 : wm_T F10 := wd_T e11 (T8.ua (k := 22) (kd := 1000) (n := 14000) (i := F6 0 41) (v := a2) rfl (by decide) g9 (show a2 < 4294967296 from ha2))
  refine wq_aload_n rfl rfl rfl ?_
  refine wm_getR (v := 36893488147419103255) rfl (by decide) (T12.r 38 22 rfl) ?_
  refine wq_aload_n rfl rfl rfl ?_
  refine wm_getI rfl (by decide) ?_
  refine wq_iload rfl rfl ha3 ?_
  obtain ⟨g13, h⟩ := od_gE h
  obtain ⟨F14, e15, h⟩ := od_upE h
  refine wd_iastore (q := 23) (n := 14000) rfl rfl (by decide) g13 (by decide) ha3 e15 ?_
  have T16 : wm_T F14 := wd_T e15 (T12.ua (k := 23) (kd := 1000) (n := 14000) (i := F10 0 41) (v := a3) rfl (by decide) g13 (show a3 < 4294967296 from ha3))
  refine wq_aload_n rfl rfl rfl ?_
  refine wq_dup rfl rfl ?_
  refine wm_getI rfl (by decide) ?_
  refine wq_iconst rfl rfl ?_
  refine wq_iaddZ rfl (T16.i 41 rfl) (wm_zlt (by decide)) (z := ((F14 0 41) + 1) % 4294967296) rfl ?_
  obtain ⟨y17, e18, h⟩ := od_letE h
  refine wq_top e18.symm ?_
  have p19 : y17 < 4294967296 := wd_lt e18 (Nat.mod_lt _ (by decide))
  obtain ⟨F20, e21, h⟩ := od_upE h
  refine wmE_put rfl (by decide) (wq_I p19) e21 ?_
  have T22 : wm_T F20 := wd_T e21 (T16.uf (f := 41) (c := 0) (v := y17) rfl (show y17 < 4294967296 from p19))
  refine wq_aload_n rfl rfl rfl ?_
  refine wm_getI rfl (by decide) ?_
  refine wq_iconst rfl rfl ?_
  refine wq_isubZ rfl (T22.i 41 rfl) (wm_zlt (by decide)) (z := ((F20 0 41) + (4294967296 - 1)) % 4294967296) rfl ?_
  obtain ⟨y23, e24, h⟩ := od_letE h
  refine wq_top e24.symm ?_
  have p25 : y23 < 4294967296 := wd_lt e24 (Nat.mod_lt _ (by decide))
  exact wq_iret rfl p25 rfl (wkOI h T22 p25)
/-- X12_later -/
def dk_31 (F : wq_F) (a0 : Nat) (a1 : Nat) (a2 : Nat) (a3 : Nat) : Option (Nat × wq_F) :=
  od_g (F 0 46 < 4000) <|
  od_up F 25 (F 0 46) a0 fun F2 =>
  od_g (F2 0 46 < 4000) <|
  od_up F2 26 (F2 0 46) a1 fun F6 =>
  od_g (F6 0 46 < 4000) <|
  od_up F6 27 (F6 0 46) a2 fun F10 =>
  od_g (F10 0 46 < 4000) <|
  od_up F10 28 (F10 0 46) a3 fun F14 =>
  od_let (((F14 0 46) + 1) % 4294967296) fun y17 =>
  od_up F14 0 46 y17 fun F20 =>
  some (0, F20)
theorem dkT_31 {d : Nat} {F : wq_F} (hT : wm_T F) {a0 : Nat} (ha0 : a0 < 4294967296) {a1 : Nat} (ha1 : a1 < 4294967296) {a2 : Nat} (ha2 : a2 < 4294967296) {a3 : Nat} (ha3 : a3 < 4294967296) {x : Nat × wq_F} (h : dk_31 F a0 a1 a2 a3 = some x) : mq (d + 0 + 1) 31 [36893488147419103232, a0, a1, a2, a3] wm_sh F (wkN wm_T wm_sh x) := by
  have e : ev_ent [36893488147419103232, a0, a1, a2, a3] = [36893488147419103232, a0, a1, a2, a3] := by
    show 36893488147419103232 :: ev_ent [a0, a1, a2, a3] = _
    rw [wm_entI ha0, wm_entI ha1, wm_entI ha2, wm_entI ha3]
    rfl
  refine mq_of (maxL := 5) (rt := none) (code := (ev_un al_mX12_later.2.2.2.2)) (L := [36893488147419103232, a0, a1, a2, a3]) rfl (by rw [e]; exact Nat.le_of_ble_eq_true rfl) (by rw [e]; rfl) ?_
  unfold dk_31 at h
  refine wq_aload_n rfl rfl rfl ?_
  refine wm_getR (v := 36893488147419103257) rfl (by decide) (hT.r 42 24 rfl) ?_
  refine wq_aload_n rfl rfl rfl ?_
  refine wm_getI rfl (by decide) ?_
  refine wq_iload_n rfl rfl ha0 ?_
  obtain ⟨g1, h⟩ := od_gE h
  obtain ⟨F2, e3, h⟩ := od_upE h
  refine wd_iastore (q := 25) (n := 4000) rfl rfl (by decide) g1 (by decide) ha0 e3 ?_
  have T4 : wm_T F2 := wd_T e3 (hT.ua (k := 25) (kd := 1000) (n := 4000) (i := F 0 46) (v := a0) rfl (by decide) g1 (show a0 < 4294967296 from ha0))
  refine wq_aload_n rfl rfl rfl ?_
  refine wm_getR (v := 36893488147419103258) rfl (by decide) (T4.r 43 25 rfl) ?_
  refine wq_aload_n rfl rfl rfl ?_
  refine wm_getI rfl (by decide) ?_
  refine wq_iload_n rfl rfl ha1 ?_
  obtain ⟨g5, h⟩ := od_gE h
  obtain ⟨F6, e7, h⟩ := od_upE h
  refine wd_iastore (q := 26) (n := 4000) rfl rfl (by decide) g5 (by decide) ha1 e7 ?_
  have T8 : wm_T F6 := wd_T e7 (T4.ua (k := 26) (kd := 1000) (n := 4000) (i := F2 0 46) (v := a1) rfl (by decide) g5 (show a1 < 4294967296 from ha1))
  refine wq_aload_n rfl rfl rfl ?_
  refine wm_getR (v := 36893488147419103259) rfl (by decide) (T8.r 44 26 rfl) ?_
  refine wq_aload_n rfl rfl rfl ?_
  refine wm_getI rfl (by decide) ?_
  refine wq_iload_n rfl rfl ha2 ?_
  obtain ⟨g9, h⟩ := od_gE h
  obtain ⟨F10, e11, h⟩ := od_upE h
  refine wd_iastore (q := 27) (n := 4000) rfl rfl (by decide) g9 (by decide) ha2 e11 ?_
  have T12 : wm_T F10 := wd_T e11 (T8.ua (k := 27) (kd := 1000) (n := 4000) (i := F6 0 46) (v := a2) rfl (by decide) g9 (show a2 < 4294967296 from ha2))
  refine wq_aload_n rfl rfl rfl ?_
  refine wm_getR (v := 36893488147419103260) rfl (by decide) (T12.r 45 27 rfl) ?_
  refine wq_aload_n rfl rfl rfl ?_
  refine wm_getI rfl (by decide) ?_
  refine wq_iload rfl rfl ha3 ?_
  obtain ⟨g13, h⟩ := od_gE h
  obtain ⟨F14, e15, h⟩ := od_upE h
  refine wd_iastore (q := 28) (n := 4000) rfl rfl (by decide) g13 (by decide) ha3 e15 ?_
  have T16 : wm_T F14 := wd_T e15 (T12.ua (k := 28) (kd := 1000) (n := 4000) (i := F10 0 46) (v := a3) rfl (by decide) g13 (show a3 < 4294967296 from ha3))
  refine wq_aload_n rfl rfl rfl ?_
  refine wq_dup rfl rfl ?_
  refine wm_getI rfl (by decide) ?_
  refine wq_iconst rfl rfl ?_
  refine wq_iaddZ rfl (T16.i 46 rfl) (wm_zlt (by decide)) (z := ((F14 0 46) + 1) % 4294967296) rfl ?_
  obtain ⟨y17, e18, h⟩ := od_letE h
  refine wq_top e18.symm ?_
  have p19 : y17 < 4294967296 := wd_lt e18 (Nat.mod_lt _ (by decide))
  obtain ⟨F20, e21, h⟩ := od_upE h
  refine wmE_put rfl (by decide) (wq_I p19) e21 ?_
  have T22 : wm_T F20 := wd_T e21 (T16.uf (f := 46) (c := 0) (v := y17) rfl (show y17 < 4294967296 from p19))
  exact wq_ret rfl (wkON h T22)
/-- X12_isWord -/
def dk_34 (F : wq_F) (a0 : Nat) : Option (Nat × wq_F) :=
  od_g (F 0 25 < 1502) <|
  if (F 9 (F 0 25)) = 4 then
    od_g (F 0 25 < 1502) <|
    od_let (18446744073709551616 + F 11 (F 0 25)) fun y4 =>
    od_let (ev_oCmpL (y4 - 18446744073709551616) ((ev_oI2l a0) - 18446744073709551616)) fun y7 =>
    if y7 = 0 then
      some (1, F)
    else
      some (0, F)
  else
    some (0, F)
theorem dkT_34 {d : Nat} {F : wq_F} (hT : wm_T F) {a0 : Nat} (ha0 : a0 < 4294967296) {x : Nat × wq_F} (h : dk_34 F a0 = some x) : mq (d + 0 + 1) 34 [36893488147419103232, a0] wm_sh F (wkZ wm_T wm_sh x) := by
  have e : ev_ent [36893488147419103232, a0] = [36893488147419103232, a0] := by
    show 36893488147419103232 :: ev_ent [a0] = _
    rw [wm_entI ha0]
    rfl
  refine mq_of (maxL := 2) (rt := (some .boolean)) (code := (ev_un al_mX12_isWord.2.2.2.2)) (L := [36893488147419103232, a0]) rfl (by rw [e]; exact Nat.le_of_ble_eq_true rfl) (by rw [e]; rfl) ?_
  unfold dk_34 at h
  refine wq_aload_n rfl rfl rfl ?_
  refine wm_getR (v := 36893488147419103241) rfl (by decide) (hT.r 21 8 rfl) ?_
  refine wq_aload_n rfl rfl rfl ?_
  refine wm_getI rfl (by decide) ?_
  obtain ⟨g1, h⟩ := od_gE h
  refine wq_iaload (q := 9) (n := 1502) rfl rfl (by decide) g1 (by decide) ?_
  refine wq_iconst rfl rfl ?_
  refine wq_ic_ne rfl rfl (hT.ai (k := 9) rfl g1) (by decide) (fun h2 => ?_) (fun h2 => ?_)
  · replace h := od_neg h h2
    refine wq_iconst rfl rfl ?_
    exact wq_iret rfl (wm_zlt (by decide)) (Nat.blt_eq.mpr (by decide)) (wkOZ h hT (by decide))
  · replace h := od_pos h h2
    refine wq_aload_n rfl rfl rfl ?_
    refine wm_getR (v := 36893488147419103243) rfl (by decide) (hT.r 23 10 rfl) ?_
    refine wq_aload_n rfl rfl rfl ?_
    refine wm_getI rfl (by decide) ?_
    obtain ⟨g3, h⟩ := od_gE h
    refine wq_laload (q := 11) (n := 1502) rfl rfl (by decide) g3 (by decide) ?_
    obtain ⟨y4, e5, h⟩ := od_letE h
    refine wq_top e5.symm ?_
    have p6 : ev_isL y4 = true := wd_ge e5 (wm_al_L (hT.al (k := 11) rfl g3))
    refine wq_iload_n rfl rfl ha0 ?_
    refine wq_i2l rfl ha0 ?_
    refine wq_lcmp rfl p6 (wq_i2l_L ha0) ?_
    obtain ⟨y7, e8, h⟩ := od_letE h
    refine wq_top e8.symm ?_
    have p9 : y7 < 4294967296 := wd_lt e8 (wq_oCmp_lt _ _)
    refine wq_if_ne rfl rfl p9 (fun h10 => ?_) (fun h10 => ?_)
    · replace h := od_neg h h10
      refine wq_iconst rfl rfl ?_
      exact wq_iret rfl (wm_zlt (by decide)) (Nat.blt_eq.mpr (by decide)) (wkOZ h hT (by decide))
    · replace h := od_pos h h10
      refine wq_iconst rfl rfl ?_
      refine wq_goto rfl rfl ?_
      exact wq_iret rfl (wm_zlt (by decide)) (Nat.blt_eq.mpr (by decide)) (wkOZ h hT (by decide))
/-- X12_here -/
def dk_210 (F : wq_F) : Option (Nat × wq_F) :=
  od_g (F 0 25 < 1502) <|
  some (F 10 (F 0 25), F)
theorem dkT_210 {d : Nat} {F : wq_F} (hT : wm_T F) {x : Nat × wq_F} (h : dk_210 F = some x) : mq (d + 0 + 1) 210 [36893488147419103232] wm_sh F (wkI wm_T wm_sh x) := by
  have e : ev_ent [36893488147419103232] = [36893488147419103232] := by
    rfl
  refine mq_of (maxL := 1) (rt := (some .int)) (code := (ev_un al_mX12_here.2.2.2.2)) (L := [36893488147419103232]) rfl (by rw [e]; exact Nat.le_of_ble_eq_true rfl) (by rw [e]; rfl) ?_
  unfold dk_210 at h
  refine wq_aload_n rfl rfl rfl ?_
  refine wm_getR (v := 36893488147419103242) rfl (by decide) (hT.r 22 9 rfl) ?_
  refine wq_aload_n rfl rfl rfl ?_
  refine wm_getI rfl (by decide) ?_
  obtain ⟨g1, h⟩ := od_gE h
  refine wq_iaload (q := 10) (n := 1502) rfl rfl (by decide) g1 (by decide) ?_
  exact wq_iret rfl (hT.ai (k := 10) rfl g1) rfl (wkOI h hT (hT.ai (k := 10) rfl g1))
/-- X12_lineHere -/
def dk_215 (F : wq_F) : Option (Nat × wq_F) :=
  (dk_210 F).bind fun y1 =>
  (dk_196 y1.2 y1.1).bind fun y5 =>
  some (y5.1, y5.2)
theorem dkT_215 {d : Nat} {F : wq_F} (hT : wm_T F) {x : Nat × wq_F} (h : dk_215 F = some x) : mq (d + 1 + 1) 215 [36893488147419103232] wm_sh F (wkI wm_T wm_sh x) := by
  have e : ev_ent [36893488147419103232] = [36893488147419103232] := by
    rfl
  refine mq_of (maxL := 1) (rt := (some .int)) (code := (ev_un al_mX12_lineHere.2.2.2.2)) (L := [36893488147419103232]) rfl (by rw [e]; exact Nat.le_of_ble_eq_true rfl) (by rw [e]; rfl) ?_
  unfold dk_215 at h
  refine wq_aload_n rfl rfl rfl ?_
  refine wq_aload_n rfl rfl rfl ?_
  obtain ⟨y1, e2, h⟩ := od_bindE h
  refine wd_virtI (q := 0) (y := y1) (as := [36893488147419103232]) rfl rfl rfl (by decide) (Nat.le_of_ble_eq_true rfl) (Nat.le_of_ble_eq_true rfl) rfl (Nat.le_of_ble_eq_true rfl) rfl (dkT_210 hT e2) (fun p3 T4 => ?_)
  obtain ⟨y5, e6, h⟩ := od_bindE h
  refine wd_virtI (q := 0) (y := y5) (as := [36893488147419103232, y1.1]) rfl rfl rfl (by decide) (Nat.le_of_ble_eq_true rfl) (Nat.le_of_ble_eq_true rfl) rfl (Nat.le_of_ble_eq_true rfl) rfl (dkT_196 T4 p3 e6) (fun p7 T8 => ?_)
  exact wq_iret rfl p7 rfl (wkOI h T8 p7)
/-- X12_fail -/
def dk_209 (F : wq_F) (a0 : Nat) (a1 : Nat) : Option (Nat × wq_F) :=
  if (F 0 4) = 0 then
    od_up F 0 4 a0 fun F2 =>
    od_up F2 0 5 a1 fun F5 =>
    some (0, F5)
  else
    some (0, F)
theorem dkT_209 {d : Nat} {F : wq_F} (hT : wm_T F) {a0 : Nat} (ha0 : a0 < 4294967296) {a1 : Nat} (ha1 : a1 < 4294967296) {x : Nat × wq_F} (h : dk_209 F a0 a1 = some x) : mq (d + 0 + 1) 209 [36893488147419103232, a0, a1] wm_sh F (wkZ wm_T wm_sh x) := by
  have e : ev_ent [36893488147419103232, a0, a1] = [36893488147419103232, a0, a1] := by
    show 36893488147419103232 :: ev_ent [a0, a1] = _
    rw [wm_entI ha0, wm_entI ha1]
    rfl
  refine mq_of (maxL := 3) (rt := (some .boolean)) (code := (ev_un al_mX12_fail.2.2.2.2)) (L := [36893488147419103232, a0, a1]) rfl (by rw [e]; exact Nat.le_of_ble_eq_true rfl) (by rw [e]; rfl) ?_
  unfold dk_209 at h
  refine wq_aload_n rfl rfl rfl ?_
  refine wm_getI rfl (by decide) ?_
  refine wq_if_ne rfl rfl (hT.i 4 rfl) (fun h1 => ?_) (fun h1 => ?_)
  · replace h := od_neg h h1
    refine wq_iconst rfl rfl ?_
    exact wq_iret rfl (wm_zlt (by decide)) (Nat.blt_eq.mpr (by decide)) (wkOZ h hT (by decide))
  · replace h := od_pos h h1
    refine wq_aload_n rfl rfl rfl ?_
    refine wq_iload_n rfl rfl ha0 ?_
    obtain ⟨F2, e3, h⟩ := od_upE h
    refine wmE_put rfl (by decide) (wq_I ha0) e3 ?_
    have T4 : wm_T F2 := wd_T e3 (hT.uf (f := 4) (c := 0) (v := a0) rfl (show a0 < 4294967296 from ha0))
    refine wq_aload_n rfl rfl rfl ?_
    refine wq_iload_n rfl rfl ha1 ?_
    obtain ⟨F5, e6, h⟩ := od_upE h
    refine wmE_put rfl (by decide) (wq_I ha1) e6 ?_
    have T7 : wm_T F5 := wd_T e6 (T4.uf (f := 5) (c := 0) (v := a1) rfl (show a1 < 4294967296 from ha1))
    refine wq_iconst rfl rfl ?_
    exact wq_iret rfl (wm_zlt (by decide)) (Nat.blt_eq.mpr (by decide)) (wkOZ h T7 (by decide))
/-- X12_take -/
def dk_212 (F : wq_F) : Option (Nat × wq_F) :=
  od_g (F 0 25 < 1502) <|
  if (F 9 (F 0 25)) = 7 then
    (dk_210 F).bind fun y15 =>
    (dk_209 y15.2 1 y15.1).bind fun y19 =>
    some (y19.1, y19.2)
  else
    if (F 0 25) = 1500 then
      (dk_210 F).bind fun y7 =>
      (dk_209 y7.2 3 y7.1).bind fun y11 =>
      some (y11.1, y11.2)
    else
      od_up F 0 25 (((F 0 25) + 1) % 4294967296) fun F4 =>
      some (1, F4)
theorem dkT_212 {d : Nat} {F : wq_F} (hT : wm_T F) {x : Nat × wq_F} (h : dk_212 F = some x) : mq (d + 1 + 1) 212 [36893488147419103232] wm_sh F (wkZ wm_T wm_sh x) := by
  have e : ev_ent [36893488147419103232] = [36893488147419103232] := by
    rfl
  refine mq_of (maxL := 1) (rt := (some .boolean)) (code := (ev_un al_mX12_take.2.2.2.2)) (L := [36893488147419103232]) rfl (by rw [e]; exact Nat.le_of_ble_eq_true rfl) (by rw [e]; rfl) ?_
  unfold dk_212 at h
  refine wq_aload_n rfl rfl rfl ?_
  refine wm_getR (v := 36893488147419103241) rfl (by decide) (hT.r 21 8 rfl) ?_
  refine wq_aload_n rfl rfl rfl ?_
  refine wm_getI rfl (by decide) ?_
  obtain ⟨g1, h⟩ := od_gE h
  refine wq_iaload (q := 9) (n := 1502) rfl rfl (by decide) g1 (by decide) ?_
  refine wq_bipush rfl rfl ?_
  refine wq_ic_ne rfl rfl (hT.ai (k := 9) rfl g1) (by decide) (fun h2 => ?_) (fun h2 => ?_)
  · replace h := od_neg h h2
    refine wq_aload_n rfl rfl rfl ?_
    refine wm_getI rfl (by decide) ?_
    refine wq_sipush rfl rfl ?_
    refine wq_ic_ne rfl rfl (hT.i 25 rfl) (by decide) (fun h3 => ?_) (fun h3 => ?_)
    · replace h := od_neg h h3
      refine wq_aload_n rfl rfl rfl ?_
      refine wq_dup rfl rfl ?_
      refine wm_getI rfl (by decide) ?_
      refine wq_iconst rfl rfl ?_
      refine wq_iaddZ rfl (hT.i 25 rfl) (wm_zlt (by decide)) (z := ((F 0 25) + 1) % 4294967296) rfl ?_
      obtain ⟨F4, e5, h⟩ := od_upE h
      refine wmE_put rfl (by decide) (wq_I (Nat.mod_lt _ (by decide))) e5 ?_
      have T6 : wm_T F4 := wd_T e5 (hT.uf (f := 25) (c := 0) (v := ((F 0 25) + 1) % 4294967296) rfl (show ((F 0 25) + 1) % 4294967296 < 4294967296 from (Nat.mod_lt _ (by decide))))
      refine wq_iconst rfl rfl ?_
      exact wq_iret rfl (wm_zlt (by decide)) (Nat.blt_eq.mpr (by decide)) (wkOZ h T6 (by decide))
    · replace h := od_pos h h3
      refine wq_aload_n rfl rfl rfl ?_
      refine wq_iconst rfl rfl ?_
      refine wq_aload_n rfl rfl rfl ?_
      obtain ⟨y7, e8, h⟩ := od_bindE h
      refine wd_virtI (q := 0) (y := y7) (as := [36893488147419103232]) rfl rfl rfl (by decide) (Nat.le_of_ble_eq_true rfl) (Nat.le_of_ble_eq_true rfl) rfl (Nat.le_of_ble_eq_true rfl) rfl (dkT_210 hT e8) (fun p9 T10 => ?_)
      obtain ⟨y11, e12, h⟩ := od_bindE h
      refine wd_virtZ (q := 0) (y := y11) (as := [36893488147419103232, 3, y7.1]) rfl rfl rfl (by decide) (Nat.le_of_ble_eq_true rfl) (Nat.le_of_ble_eq_true rfl) rfl (Nat.le_of_ble_eq_true rfl) rfl (dkT_209 T10 (by decide) p9 e12) (fun p13 T14 => ?_)
      exact wq_iret rfl (wm_zlt p13) (Nat.blt_eq.mpr p13) (wkOZ h T14 p13)
  · replace h := od_pos h h2
    refine wq_aload_n rfl rfl rfl ?_
    refine wq_iconst rfl rfl ?_
    refine wq_aload_n rfl rfl rfl ?_
    obtain ⟨y15, e16, h⟩ := od_bindE h
    refine wd_virtI (q := 0) (y := y15) (as := [36893488147419103232]) rfl rfl rfl (by decide) (Nat.le_of_ble_eq_true rfl) (Nat.le_of_ble_eq_true rfl) rfl (Nat.le_of_ble_eq_true rfl) rfl (dkT_210 hT e16) (fun p17 T18 => ?_)
    obtain ⟨y19, e20, h⟩ := od_bindE h
    refine wd_virtZ (q := 0) (y := y19) (as := [36893488147419103232, 1, y15.1]) rfl rfl rfl (by decide) (Nat.le_of_ble_eq_true rfl) (Nat.le_of_ble_eq_true rfl) rfl (Nat.le_of_ble_eq_true rfl) rfl (dkT_209 T18 (wm_zlt (by decide)) p17 e20) (fun p21 T22 => ?_)
    exact wq_iret rfl (wm_zlt p21) (Nat.blt_eq.mpr p21) (wkOZ h T22 p21)
/-- X12_isSign -/
def dk_36 (F : wq_F) (a0 : Nat) : Option (Nat × wq_F) :=
  od_g (F 0 25 < 1502) <|
  if (F 9 (F 0 25)) = 5 then
    od_g (F 0 25 < 1502) <|
    od_let (18446744073709551616 + F 11 (F 0 25)) fun y4 =>
    od_let (ev_oCmpL (y4 - 18446744073709551616) ((ev_oI2l a0) - 18446744073709551616)) fun y7 =>
    if y7 = 0 then
      some (1, F)
    else
      some (0, F)
  else
    some (0, F)
theorem dkT_36 {d : Nat} {F : wq_F} (hT : wm_T F) {a0 : Nat} (ha0 : a0 < 4294967296) {x : Nat × wq_F} (h : dk_36 F a0 = some x) : mq (d + 0 + 1) 36 [36893488147419103232, a0] wm_sh F (wkZ wm_T wm_sh x) := by
  have e : ev_ent [36893488147419103232, a0] = [36893488147419103232, a0] := by
    show 36893488147419103232 :: ev_ent [a0] = _
    rw [wm_entI ha0]
    rfl
  refine mq_of (maxL := 2) (rt := (some .boolean)) (code := (ev_un al_mX12_isSign.2.2.2.2)) (L := [36893488147419103232, a0]) rfl (by rw [e]; exact Nat.le_of_ble_eq_true rfl) (by rw [e]; rfl) ?_
  unfold dk_36 at h
  refine wq_aload_n rfl rfl rfl ?_
  refine wm_getR (v := 36893488147419103241) rfl (by decide) (hT.r 21 8 rfl) ?_
  refine wq_aload_n rfl rfl rfl ?_
  refine wm_getI rfl (by decide) ?_
  obtain ⟨g1, h⟩ := od_gE h
  refine wq_iaload (q := 9) (n := 1502) rfl rfl (by decide) g1 (by decide) ?_
  refine wq_iconst rfl rfl ?_
  refine wq_ic_ne rfl rfl (hT.ai (k := 9) rfl g1) (by decide) (fun h2 => ?_) (fun h2 => ?_)
  · replace h := od_neg h h2
    refine wq_iconst rfl rfl ?_
    exact wq_iret rfl (wm_zlt (by decide)) (Nat.blt_eq.mpr (by decide)) (wkOZ h hT (by decide))
  · replace h := od_pos h h2
    refine wq_aload_n rfl rfl rfl ?_
    refine wm_getR (v := 36893488147419103243) rfl (by decide) (hT.r 23 10 rfl) ?_
    refine wq_aload_n rfl rfl rfl ?_
    refine wm_getI rfl (by decide) ?_
    obtain ⟨g3, h⟩ := od_gE h
    refine wq_laload (q := 11) (n := 1502) rfl rfl (by decide) g3 (by decide) ?_
    obtain ⟨y4, e5, h⟩ := od_letE h
    refine wq_top e5.symm ?_
    have p6 : ev_isL y4 = true := wd_ge e5 (wm_al_L (hT.al (k := 11) rfl g3))
    refine wq_iload_n rfl rfl ha0 ?_
    refine wq_i2l rfl ha0 ?_
    refine wq_lcmp rfl p6 (wq_i2l_L ha0) ?_
    obtain ⟨y7, e8, h⟩ := od_letE h
    refine wq_top e8.symm ?_
    have p9 : y7 < 4294967296 := wd_lt e8 (wq_oCmp_lt _ _)
    refine wq_if_ne rfl rfl p9 (fun h10 => ?_) (fun h10 => ?_)
    · replace h := od_neg h h10
      refine wq_iconst rfl rfl ?_
      exact wq_iret rfl (wm_zlt (by decide)) (Nat.blt_eq.mpr (by decide)) (wkOZ h hT (by decide))
    · replace h := od_pos h h10
      refine wq_iconst rfl rfl ?_
      refine wq_goto rfl rfl ?_
      exact wq_iret rfl (wm_zlt (by decide)) (Nat.blt_eq.mpr (by decide)) (wkOZ h hT (by decide))
/-- X12_beginsE -/
def dk_217 (F : wq_F) : Option (Nat × wq_F) :=
  od_g (F 0 25 < 1502) <|
  if (F 9 (F 0 25)) = 1 then
    some (1, F)
  else
    od_g (F 0 25 < 1502) <|
    if (F 9 (F 0 25)) = 2 then
      some (1, F)
    else
      od_g (F 0 25 < 1502) <|
      if (F 9 (F 0 25)) = 3 then
        some (1, F)
      else
        od_g (F 0 25 < 1502) <|
        if (F 9 (F 0 25)) = 4 then
          od_g (F 0 25 < 1502) <|
          od_let (18446744073709551616 + F 11 (F 0 25)) fun y40 =>
          if (ev_oL2i y40) = 13 then
            some (1, F)
          else
            if (ev_oL2i y40) = 7 then
              some (1, F)
            else
              if (ev_oL2i y40) = 19 then
                some (1, F)
              else
                if (ev_oL2i y40) = 14 then
                  some (1, F)
                else
                  if (ev_oL2i y40) = 9 then
                    some (1, F)
                  else
                    some (0, F)
        else
          (dk_36 F 301).bind fun y9 =>
          if y9.1 = 0 then
            (dk_36 y9.2 123).bind fun y14 =>
            if y14.1 = 0 then
              (dk_36 y14.2 40).bind fun y19 =>
              if y19.1 = 0 then
                (dk_36 y19.2 35).bind fun y24 =>
                if y24.1 = 0 then
                  (dk_36 y24.2 45).bind fun y29 =>
                  if y29.1 = 0 then
                    (dk_36 y29.2 126).bind fun y34 =>
                    if y34.1 = 0 then
                      some (0, y34.2)
                    else
                      some (1, y34.2)
                  else
                    some (1, y29.2)
                else
                  some (1, y24.2)
              else
                some (1, y19.2)
            else
              some (1, y14.2)
          else
            some (1, y9.2)
theorem dkT_217 {d : Nat} {F : wq_F} (hT : wm_T F) {x : Nat × wq_F} (h : dk_217 F = some x) : mq (d + 1 + 1) 217 [36893488147419103232] wm_sh F (wkZ wm_T wm_sh x) := by
  have e : ev_ent [36893488147419103232] = [36893488147419103232] := by
    rfl
  refine mq_of (maxL := 2) (rt := (some .boolean)) (code := (ev_un al_mX12_beginsE.2.2.2.2)) (L := [36893488147419103232, 73786976294838206464]) rfl (by rw [e]; exact Nat.le_of_ble_eq_true rfl) (by rw [e]; rfl) ?_
  unfold dk_217 at h
  refine wq_aload_n rfl rfl rfl ?_
  refine wm_getR (v := 36893488147419103241) rfl (by decide) (hT.r 21 8 rfl) ?_
  refine wq_aload_n rfl rfl rfl ?_
  refine wm_getI rfl (by decide) ?_
  obtain ⟨g1, h⟩ := od_gE h
  refine wq_iaload (q := 9) (n := 1502) rfl rfl (by decide) g1 (by decide) ?_
  refine wq_iconst rfl rfl ?_
  refine wq_ic_eq rfl rfl (hT.ai (k := 9) rfl g1) (wm_zlt (by decide)) (fun h2 => ?_) (fun h2 => ?_)
  · replace h := od_pos h h2
    refine wq_iconst rfl rfl ?_
    exact wq_iret rfl (wm_zlt (by decide)) (Nat.blt_eq.mpr (by decide)) (wkOZ h hT (by decide))
  · replace h := od_neg h h2
    refine wq_aload_n rfl rfl rfl ?_
    refine wm_getR (v := 36893488147419103241) rfl (by decide) (hT.r 21 8 rfl) ?_
    refine wq_aload_n rfl rfl rfl ?_
    refine wm_getI rfl (by decide) ?_
    obtain ⟨g3, h⟩ := od_gE h
    refine wq_iaload (q := 9) (n := 1502) rfl rfl (by decide) g3 (by decide) ?_
    refine wq_iconst rfl rfl ?_
    refine wq_ic_eq rfl rfl (hT.ai (k := 9) rfl g3) (by decide) (fun h4 => ?_) (fun h4 => ?_)
    · replace h := od_pos h h4
      refine wq_iconst rfl rfl ?_
      exact wq_iret rfl (wm_zlt (by decide)) (Nat.blt_eq.mpr (by decide)) (wkOZ h hT (by decide))
    · replace h := od_neg h h4
      refine wq_aload_n rfl rfl rfl ?_
      refine wm_getR (v := 36893488147419103241) rfl (by decide) (hT.r 21 8 rfl) ?_
      refine wq_aload_n rfl rfl rfl ?_
      refine wm_getI rfl (by decide) ?_
      obtain ⟨g5, h⟩ := od_gE h
      refine wq_iaload (q := 9) (n := 1502) rfl rfl (by decide) g5 (by decide) ?_
      refine wq_iconst rfl rfl ?_
      refine wq_ic_ne rfl rfl (hT.ai (k := 9) rfl g5) (by decide) (fun h6 => ?_) (fun h6 => ?_)
      · replace h := od_neg h h6
        refine wq_aload_n rfl rfl rfl ?_
        refine wm_getR (v := 36893488147419103241) rfl (by decide) (hT.r 21 8 rfl) ?_
        refine wq_aload_n rfl rfl rfl ?_
        refine wm_getI rfl (by decide) ?_
        obtain ⟨g7, h⟩ := od_gE h
        refine wq_iaload (q := 9) (n := 1502) rfl rfl (by decide) g7 (by decide) ?_
        refine wq_iconst rfl rfl ?_
        refine wq_ic_ne rfl rfl (hT.ai (k := 9) rfl g7) (by decide) (fun h8 => ?_) (fun h8 => ?_)
        · replace h := od_neg h h8
          refine wq_aload_n rfl rfl rfl ?_
          refine wq_sipush rfl rfl ?_
          obtain ⟨y9, e10, h⟩ := od_bindE h
          refine wd_virtZ (q := 0) (y := y9) (as := [36893488147419103232, 301]) rfl rfl rfl (by decide) (Nat.le_of_ble_eq_true rfl) (Nat.le_of_ble_eq_true rfl) rfl (Nat.le_of_ble_eq_true rfl) rfl (dkT_36 hT (by decide) e10) (fun p11 T12 => ?_)
          refine wq_if_ne rfl rfl (wm_zlt p11) (fun h13 => ?_) (fun h13 => ?_)
          · replace h := od_neg h h13
            refine wq_iconst rfl rfl ?_
            refine wq_goto rfl rfl ?_
            exact wq_iret rfl (wm_zlt (by decide)) (Nat.blt_eq.mpr (by decide)) (wkOZ h T12 (by decide))
          · replace h := od_pos h h13
            refine wq_aload_n rfl rfl rfl ?_
            refine wq_bipush rfl rfl ?_
            obtain ⟨y14, e15, h⟩ := od_bindE h
            refine wd_virtZ (q := 0) (y := y14) (as := [36893488147419103232, 123]) rfl rfl rfl (by decide) (Nat.le_of_ble_eq_true rfl) (Nat.le_of_ble_eq_true rfl) rfl (Nat.le_of_ble_eq_true rfl) rfl (dkT_36 T12 (by decide) e15) (fun p16 T17 => ?_)
            refine wq_if_ne rfl rfl (wm_zlt p16) (fun h18 => ?_) (fun h18 => ?_)
            · replace h := od_neg h h18
              refine wq_iconst rfl rfl ?_
              refine wq_goto rfl rfl ?_
              exact wq_iret rfl (wm_zlt (by decide)) (Nat.blt_eq.mpr (by decide)) (wkOZ h T17 (by decide))
            · replace h := od_pos h h18
              refine wq_aload_n rfl rfl rfl ?_
              refine wq_bipush rfl rfl ?_
              obtain ⟨y19, e20, h⟩ := od_bindE h
              refine wd_virtZ (q := 0) (y := y19) (as := [36893488147419103232, 40]) rfl rfl rfl (by decide) (Nat.le_of_ble_eq_true rfl) (Nat.le_of_ble_eq_true rfl) rfl (Nat.le_of_ble_eq_true rfl) rfl (dkT_36 T17 (by decide) e20) (fun p21 T22 => ?_)
              refine wq_if_ne rfl rfl (wm_zlt p21) (fun h23 => ?_) (fun h23 => ?_)
              · replace h := od_neg h h23
                refine wq_iconst rfl rfl ?_
                refine wq_goto rfl rfl ?_
                exact wq_iret rfl (wm_zlt (by decide)) (Nat.blt_eq.mpr (by decide)) (wkOZ h T22 (by decide))
              · replace h := od_pos h h23
                refine wq_aload_n rfl rfl rfl ?_
                refine wq_bipush rfl rfl ?_
                obtain ⟨y24, e25, h⟩ := od_bindE h
                refine wd_virtZ (q := 0) (y := y24) (as := [36893488147419103232, 35]) rfl rfl rfl (by decide) (Nat.le_of_ble_eq_true rfl) (Nat.le_of_ble_eq_true rfl) rfl (Nat.le_of_ble_eq_true rfl) rfl (dkT_36 T22 (by decide) e25) (fun p26 T27 => ?_)
                refine wq_if_ne rfl rfl (wm_zlt p26) (fun h28 => ?_) (fun h28 => ?_)
                · replace h := od_neg h h28
                  refine wq_iconst rfl rfl ?_
                  refine wq_goto rfl rfl ?_
                  exact wq_iret rfl (wm_zlt (by decide)) (Nat.blt_eq.mpr (by decide)) (wkOZ h T27 (by decide))
                · replace h := od_pos h h28
                  refine wq_aload_n rfl rfl rfl ?_
                  refine wq_bipush rfl rfl ?_
                  obtain ⟨y29, e30, h⟩ := od_bindE h
                  refine wd_virtZ (q := 0) (y := y29) (as := [36893488147419103232, 45]) rfl rfl rfl (by decide) (Nat.le_of_ble_eq_true rfl) (Nat.le_of_ble_eq_true rfl) rfl (Nat.le_of_ble_eq_true rfl) rfl (dkT_36 T27 (by decide) e30) (fun p31 T32 => ?_)
                  refine wq_if_ne rfl rfl (wm_zlt p31) (fun h33 => ?_) (fun h33 => ?_)
                  · replace h := od_neg h h33
                    refine wq_iconst rfl rfl ?_
                    refine wq_goto rfl rfl ?_
                    exact wq_iret rfl (wm_zlt (by decide)) (Nat.blt_eq.mpr (by decide)) (wkOZ h T32 (by decide))
                  · replace h := od_pos h h33
                    refine wq_aload_n rfl rfl rfl ?_
                    refine wq_bipush rfl rfl ?_
                    obtain ⟨y34, e35, h⟩ := od_bindE h
                    refine wd_virtZ (q := 0) (y := y34) (as := [36893488147419103232, 126]) rfl rfl rfl (by decide) (Nat.le_of_ble_eq_true rfl) (Nat.le_of_ble_eq_true rfl) rfl (Nat.le_of_ble_eq_true rfl) rfl (dkT_36 T32 (by decide) e35) (fun p36 T37 => ?_)
                    refine wq_if_eq rfl rfl (wm_zlt p36) (fun h38 => ?_) (fun h38 => ?_)
                    · replace h := od_pos h h38
                      refine wq_iconst rfl rfl ?_
                      exact wq_iret rfl (wm_zlt (by decide)) (Nat.blt_eq.mpr (by decide)) (wkOZ h T37 (by decide))
                    · replace h := od_neg h h38
                      refine wq_iconst rfl rfl ?_
                      refine wq_goto rfl rfl ?_
                      exact wq_iret rfl (wm_zlt (by decide)) (Nat.blt_eq.mpr (by decide)) (wkOZ h T37 (by decide))
        · replace h := od_pos h h8
          refine wq_aload_n rfl rfl rfl ?_
          refine wm_getR (v := 36893488147419103243) rfl (by decide) (hT.r 23 10 rfl) ?_
          refine wq_aload_n rfl rfl rfl ?_
          refine wm_getI rfl (by decide) ?_
          obtain ⟨g39, h⟩ := od_gE h
          refine wq_laload (q := 11) (n := 1502) rfl rfl (by decide) g39 (by decide) ?_
          obtain ⟨y40, e41, h⟩ := od_letE h
          refine wq_top e41.symm ?_
          have p42 : ev_isL y40 = true := wd_ge e41 (wm_al_L (hT.al (k := 11) rfl g39))
          refine wq_l2i rfl p42 ?_
          refine wq_istore_n rfl (Nat.mod_lt _ (by decide)) (Nat.le_of_ble_eq_true rfl) (Or.inr ⟨_, rfl, rfl⟩) (L' := [36893488147419103232, ev_oL2i y40]) rfl ?_
          refine wq_iload_n rfl rfl (Nat.mod_lt _ (by decide)) ?_
          refine wq_bipush rfl rfl ?_
          refine wq_ic_eq rfl rfl (Nat.mod_lt _ (by decide)) (by decide) (fun h43 => ?_) (fun h43 => ?_)
          · replace h := od_pos h h43
            refine wq_iconst rfl rfl ?_
            refine wq_goto rfl rfl ?_
            exact wq_iret rfl (wm_zlt (by decide)) (Nat.blt_eq.mpr (by decide)) (wkOZ h hT (by decide))
          · replace h := od_neg h h43
            refine wq_iload_n rfl rfl (Nat.mod_lt _ (by decide)) ?_
            refine wq_bipush rfl rfl ?_
            refine wq_ic_eq rfl rfl (Nat.mod_lt _ (by decide)) (by decide) (fun h44 => ?_) (fun h44 => ?_)
            · replace h := od_pos h h44
              refine wq_iconst rfl rfl ?_
              refine wq_goto rfl rfl ?_
              exact wq_iret rfl (wm_zlt (by decide)) (Nat.blt_eq.mpr (by decide)) (wkOZ h hT (by decide))
            · replace h := od_neg h h44
              refine wq_iload_n rfl rfl (Nat.mod_lt _ (by decide)) ?_
              refine wq_bipush rfl rfl ?_
              refine wq_ic_eq rfl rfl (Nat.mod_lt _ (by decide)) (by decide) (fun h45 => ?_) (fun h45 => ?_)
              · replace h := od_pos h h45
                refine wq_iconst rfl rfl ?_
                refine wq_goto rfl rfl ?_
                exact wq_iret rfl (wm_zlt (by decide)) (Nat.blt_eq.mpr (by decide)) (wkOZ h hT (by decide))
              · replace h := od_neg h h45
                refine wq_iload_n rfl rfl (Nat.mod_lt _ (by decide)) ?_
                refine wq_bipush rfl rfl ?_
                refine wq_ic_eq rfl rfl (Nat.mod_lt _ (by decide)) (by decide) (fun h46 => ?_) (fun h46 => ?_)
                · replace h := od_pos h h46
                  refine wq_iconst rfl rfl ?_
                  refine wq_goto rfl rfl ?_
                  exact wq_iret rfl (wm_zlt (by decide)) (Nat.blt_eq.mpr (by decide)) (wkOZ h hT (by decide))
                · replace h := od_neg h h46
                  refine wq_iload_n rfl rfl (Nat.mod_lt _ (by decide)) ?_
                  refine wq_bipush rfl rfl ?_
                  refine wq_ic_ne rfl rfl (Nat.mod_lt _ (by decide)) (by decide) (fun h47 => ?_) (fun h47 => ?_)
                  · replace h := od_neg h h47
                    refine wq_iconst rfl rfl ?_
                    exact wq_iret rfl (wm_zlt (by decide)) (Nat.blt_eq.mpr (by decide)) (wkOZ h hT (by decide))
                  · replace h := od_pos h h47
                    refine wq_iconst rfl rfl ?_
                    refine wq_goto rfl rfl ?_
                    exact wq_iret rfl (wm_zlt (by decide)) (Nat.blt_eq.mpr (by decide)) (wkOZ h hT (by decide))
      · replace h := od_pos h h6
        refine wq_iconst rfl rfl ?_
        exact wq_iret rfl (wm_zlt (by decide)) (Nat.blt_eq.mpr (by decide)) (wkOZ h hT (by decide))
def dk_35_60 (F : wq_F) (s0 : Nat) : Option (Nat × wq_F) :=
  if s0 = 3 then
    some (1, F)
  else
    if s0 = 21 then
      some (1, F)
    else
      if s0 = 16 then
        some (1, F)
      else
        if s0 = 10 then
          some (1, F)
        else
          if s0 = 8 then
            some (1, F)
          else
            if s0 = 9 then
              some (1, F)
            else
              if s0 = 12 then
                some (1, F)
              else
                if s0 = 2 then
                  some (1, F)
                else
                  some (0, F)
theorem dk_35_60T {d : Nat} : ∀ ⦃F : wq_F⦄ (hT : wm_T F) ⦃s0 : Nat⦄ (hs0 : s0 < 4294967296) ⦃x : Nat × wq_F⦄ (h : dk_35_60 F s0 = some x), wq (wq_cf (d + 1)) (ev_un al_mX12_beginsStatement.2.2.2.2) (some .boolean) 60 [36893488147419103232, 73786976294838206464] [s0] wm_sh F 0 0 (wkZ wm_T wm_sh x) := by
  intro F hT s0 hs0 x h
  unfold dk_35_60 at h
  refine wq_istore_n rfl hs0 (Nat.le_of_ble_eq_true rfl) (Or.inr ⟨_, rfl, rfl⟩) (L' := [36893488147419103232, s0]) rfl ?_
  refine wq_iload_n rfl rfl hs0 ?_
  refine wq_iconst rfl rfl ?_
  refine wq_ic_eq rfl rfl hs0 (by decide) (fun h1 => ?_) (fun h1 => ?_)
  · replace h := od_pos h h1
    refine wq_iconst rfl rfl ?_
    refine wq_goto rfl rfl ?_
    exact wq_iret rfl (wm_zlt (by decide)) (Nat.blt_eq.mpr (by decide)) (wkOZ h hT (by decide))
  · replace h := od_neg h h1
    refine wq_iload_n rfl rfl hs0 ?_
    refine wq_bipush rfl rfl ?_
    refine wq_ic_eq rfl rfl hs0 (by decide) (fun h2 => ?_) (fun h2 => ?_)
    · replace h := od_pos h h2
      refine wq_iconst rfl rfl ?_
      refine wq_goto rfl rfl ?_
      exact wq_iret rfl (wm_zlt (by decide)) (Nat.blt_eq.mpr (by decide)) (wkOZ h hT (by decide))
    · replace h := od_neg h h2
      refine wq_iload_n rfl rfl hs0 ?_
      refine wq_bipush rfl rfl ?_
      refine wq_ic_eq rfl rfl hs0 (by decide) (fun h3 => ?_) (fun h3 => ?_)
      · replace h := od_pos h h3
        refine wq_iconst rfl rfl ?_
        refine wq_goto rfl rfl ?_
        exact wq_iret rfl (wm_zlt (by decide)) (Nat.blt_eq.mpr (by decide)) (wkOZ h hT (by decide))
      · replace h := od_neg h h3
        refine wq_iload_n rfl rfl hs0 ?_
        refine wq_bipush rfl rfl ?_
        refine wq_ic_eq rfl rfl hs0 (by decide) (fun h4 => ?_) (fun h4 => ?_)
        · replace h := od_pos h h4
          refine wq_iconst rfl rfl ?_
          refine wq_goto rfl rfl ?_
          exact wq_iret rfl (wm_zlt (by decide)) (Nat.blt_eq.mpr (by decide)) (wkOZ h hT (by decide))
        · replace h := od_neg h h4
          refine wq_iload_n rfl rfl hs0 ?_
          refine wq_bipush rfl rfl ?_
          refine wq_ic_eq rfl rfl hs0 (by decide) (fun h5 => ?_) (fun h5 => ?_)
          · replace h := od_pos h h5
            refine wq_iconst rfl rfl ?_
            refine wq_goto rfl rfl ?_
            exact wq_iret rfl (wm_zlt (by decide)) (Nat.blt_eq.mpr (by decide)) (wkOZ h hT (by decide))
          · replace h := od_neg h h5
            refine wq_iload_n rfl rfl hs0 ?_
            refine wq_bipush rfl rfl ?_
            refine wq_ic_eq rfl rfl hs0 (by decide) (fun h6 => ?_) (fun h6 => ?_)
            · replace h := od_pos h h6
              refine wq_iconst rfl rfl ?_
              refine wq_goto rfl rfl ?_
              exact wq_iret rfl (wm_zlt (by decide)) (Nat.blt_eq.mpr (by decide)) (wkOZ h hT (by decide))
            · replace h := od_neg h h6
              refine wq_iload_n rfl rfl hs0 ?_
              refine wq_bipush rfl rfl ?_
              refine wq_ic_eq rfl rfl hs0 (by decide) (fun h7 => ?_) (fun h7 => ?_)
              · replace h := od_pos h h7
                refine wq_iconst rfl rfl ?_
                refine wq_goto rfl rfl ?_
                exact wq_iret rfl (wm_zlt (by decide)) (Nat.blt_eq.mpr (by decide)) (wkOZ h hT (by decide))
              · replace h := od_neg h h7
                refine wq_iload_n rfl rfl hs0 ?_
                refine wq_iconst rfl rfl ?_
                refine wq_ic_ne rfl rfl hs0 (by decide) (fun h8 => ?_) (fun h8 => ?_)
                · replace h := od_neg h h8
                  refine wq_iconst rfl rfl ?_
                  exact wq_iret rfl (wm_zlt (by decide)) (Nat.blt_eq.mpr (by decide)) (wkOZ h hT (by decide))
                · replace h := od_pos h h8
                  refine wq_iconst rfl rfl ?_
                  refine wq_goto rfl rfl ?_
                  exact wq_iret rfl (wm_zlt (by decide)) (Nat.blt_eq.mpr (by decide)) (wkOZ h hT (by decide))
/-- X12_beginsStatement -/
def dk_35 (F : wq_F) : Option (Nat × wq_F) :=
  od_g (F 0 25 < 1502) <|
  if (F 9 (F 0 25)) = 1 then
    some (1, F)
  else
    (dk_36 F 59).bind fun y3 =>
    if y3.1 = 0 then
      (dk_36 y3.2 40).bind fun y8 =>
      if y8.1 = 0 then
        od_g (y8.2 0 25 < 1502) <|
        if (y8.2 9 (y8.2 0 25)) = 4 then
          od_g (y8.2 0 25 < 1502) <|
          od_let (18446744073709551616 + y8.2 11 (y8.2 0 25)) fun y16 =>
          dk_35_60 y8.2 (ev_oL2i y16)
        else
          dk_35_60 y8.2 0
      else
        some (1, y8.2)
    else
      some (1, y3.2)
theorem dkT_35 {d : Nat} {F : wq_F} (hT : wm_T F) {x : Nat × wq_F} (h : dk_35 F = some x) : mq (d + 1 + 1) 35 [36893488147419103232] wm_sh F (wkZ wm_T wm_sh x) := by
  have e : ev_ent [36893488147419103232] = [36893488147419103232] := by
    rfl
  refine mq_of (maxL := 2) (rt := (some .boolean)) (code := (ev_un al_mX12_beginsStatement.2.2.2.2)) (L := [36893488147419103232, 73786976294838206464]) rfl (by rw [e]; exact Nat.le_of_ble_eq_true rfl) (by rw [e]; rfl) ?_
  unfold dk_35 at h
  refine wq_aload_n rfl rfl rfl ?_
  refine wm_getR (v := 36893488147419103241) rfl (by decide) (hT.r 21 8 rfl) ?_
  refine wq_aload_n rfl rfl rfl ?_
  refine wm_getI rfl (by decide) ?_
  obtain ⟨g1, h⟩ := od_gE h
  refine wq_iaload (q := 9) (n := 1502) rfl rfl (by decide) g1 (by decide) ?_
  refine wq_iconst rfl rfl ?_
  refine wq_ic_eq rfl rfl (hT.ai (k := 9) rfl g1) (wm_zlt (by decide)) (fun h2 => ?_) (fun h2 => ?_)
  · replace h := od_pos h h2
    refine wq_iconst rfl rfl ?_
    exact wq_iret rfl (wm_zlt (by decide)) (Nat.blt_eq.mpr (by decide)) (wkOZ h hT (by decide))
  · replace h := od_neg h h2
    refine wq_aload_n rfl rfl rfl ?_
    refine wq_bipush rfl rfl ?_
    obtain ⟨y3, e4, h⟩ := od_bindE h
    refine wd_virtZ (q := 0) (y := y3) (as := [36893488147419103232, 59]) rfl rfl rfl (by decide) (Nat.le_of_ble_eq_true rfl) (Nat.le_of_ble_eq_true rfl) rfl (Nat.le_of_ble_eq_true rfl) rfl (dkT_36 hT (by decide) e4) (fun p5 T6 => ?_)
    refine wq_if_ne rfl rfl (wm_zlt p5) (fun h7 => ?_) (fun h7 => ?_)
    · replace h := od_neg h h7
      refine wq_iconst rfl rfl ?_
      exact wq_iret rfl (wm_zlt (by decide)) (Nat.blt_eq.mpr (by decide)) (wkOZ h T6 (by decide))
    · replace h := od_pos h h7
      refine wq_aload_n rfl rfl rfl ?_
      refine wq_bipush rfl rfl ?_
      obtain ⟨y8, e9, h⟩ := od_bindE h
      refine wd_virtZ (q := 0) (y := y8) (as := [36893488147419103232, 40]) rfl rfl rfl (by decide) (Nat.le_of_ble_eq_true rfl) (Nat.le_of_ble_eq_true rfl) rfl (Nat.le_of_ble_eq_true rfl) rfl (dkT_36 T6 (by decide) e9) (fun p10 T11 => ?_)
      refine wq_if_eq rfl rfl (wm_zlt p10) (fun h12 => ?_) (fun h12 => ?_)
      · replace h := od_pos h h12
        refine wq_aload_n rfl rfl rfl ?_
        refine wm_getR (v := 36893488147419103241) rfl (by decide) (T11.r 21 8 rfl) ?_
        refine wq_aload_n rfl rfl rfl ?_
        refine wm_getI rfl (by decide) ?_
        obtain ⟨g13, h⟩ := od_gE h
        refine wq_iaload (q := 9) (n := 1502) rfl rfl (by decide) g13 (by decide) ?_
        refine wq_iconst rfl rfl ?_
        refine wq_ic_ne rfl rfl (T11.ai (k := 9) rfl g13) (by decide) (fun h14 => ?_) (fun h14 => ?_)
        · replace h := od_neg h h14
          refine wq_iconst rfl rfl ?_
          exact dk_35_60T T11 (wm_zlt (by decide)) h
        · replace h := od_pos h h14
          refine wq_aload_n rfl rfl rfl ?_
          refine wm_getR (v := 36893488147419103243) rfl (by decide) (T11.r 23 10 rfl) ?_
          refine wq_aload_n rfl rfl rfl ?_
          refine wm_getI rfl (by decide) ?_
          obtain ⟨g15, h⟩ := od_gE h
          refine wq_laload (q := 11) (n := 1502) rfl rfl (by decide) g15 (by decide) ?_
          obtain ⟨y16, e17, h⟩ := od_letE h
          refine wq_top e17.symm ?_
          have p18 : ev_isL y16 = true := wd_ge e17 (wm_al_L (T11.al (k := 11) rfl g15))
          refine wq_l2i rfl p18 ?_
          refine wq_goto rfl rfl ?_
          exact dk_35_60T T11 (Nat.mod_lt _ (by decide)) h
      · replace h := od_neg h h12
        refine wq_iconst rfl rfl ?_
        exact wq_iret rfl (wm_zlt (by decide)) (Nat.blt_eq.mpr (by decide)) (wkOZ h T11 (by decide))
/-- X12_enter -/
def dk_216 (F : wq_F) : Option (Nat × wq_F) :=
  if (F 0 47) = 20 then
    (dk_210 F).bind fun y5 =>
    (dk_209 y5.2 3 y5.1).bind fun y9 =>
    some (y9.1, y9.2)
  else
    od_up F 0 47 (((F 0 47) + 1) % 4294967296) fun F2 =>
    some (1, F2)
theorem dkT_216 {d : Nat} {F : wq_F} (hT : wm_T F) {x : Nat × wq_F} (h : dk_216 F = some x) : mq (d + 1 + 1) 216 [36893488147419103232] wm_sh F (wkZ wm_T wm_sh x) := by
  have e : ev_ent [36893488147419103232] = [36893488147419103232] := by
    rfl
  refine mq_of (maxL := 1) (rt := (some .boolean)) (code := (ev_un al_mX12_enter.2.2.2.2)) (L := [36893488147419103232]) rfl (by rw [e]; exact Nat.le_of_ble_eq_true rfl) (by rw [e]; rfl) ?_
  unfold dk_216 at h
  refine wq_aload_n rfl rfl rfl ?_
  refine wm_getI rfl (by decide) ?_
  refine wq_bipush rfl rfl ?_
  refine wq_ic_ne rfl rfl (hT.i 47 rfl) (by decide) (fun h1 => ?_) (fun h1 => ?_)
  · replace h := od_neg h h1
    refine wq_aload_n rfl rfl rfl ?_
    refine wq_dup rfl rfl ?_
    refine wm_getI rfl (by decide) ?_
    refine wq_iconst rfl rfl ?_
    refine wq_iaddZ rfl (hT.i 47 rfl) (wm_zlt (by decide)) (z := ((F 0 47) + 1) % 4294967296) rfl ?_
    obtain ⟨F2, e3, h⟩ := od_upE h
    refine wmE_put rfl (by decide) (wq_I (Nat.mod_lt _ (by decide))) e3 ?_
    have T4 : wm_T F2 := wd_T e3 (hT.uf (f := 47) (c := 0) (v := ((F 0 47) + 1) % 4294967296) rfl (show ((F 0 47) + 1) % 4294967296 < 4294967296 from (Nat.mod_lt _ (by decide))))
    refine wq_iconst rfl rfl ?_
    exact wq_iret rfl (wm_zlt (by decide)) (Nat.blt_eq.mpr (by decide)) (wkOZ h T4 (by decide))
  · replace h := od_pos h h1
    refine wq_aload_n rfl rfl rfl ?_
    refine wq_iconst rfl rfl ?_
    refine wq_aload_n rfl rfl rfl ?_
    obtain ⟨y5, e6, h⟩ := od_bindE h
    refine wd_virtI (q := 0) (y := y5) (as := [36893488147419103232]) rfl rfl rfl (by decide) (Nat.le_of_ble_eq_true rfl) (Nat.le_of_ble_eq_true rfl) rfl (Nat.le_of_ble_eq_true rfl) rfl (dkT_210 hT e6) (fun p7 T8 => ?_)
    obtain ⟨y9, e10, h⟩ := od_bindE h
    refine wd_virtZ (q := 0) (y := y9) (as := [36893488147419103232, 3, y5.1]) rfl rfl rfl (by decide) (Nat.le_of_ble_eq_true rfl) (Nat.le_of_ble_eq_true rfl) rfl (Nat.le_of_ble_eq_true rfl) rfl (dkT_209 T8 (by decide) p7 e10) (fun p11 T12 => ?_)
    exact wq_iret rfl (wm_zlt p11) (Nat.blt_eq.mpr p11) (wkOZ h T12 p11)
/-- X12_block -/
def dk_224 (F : wq_F) : Option (Nat × wq_F) :=
  (dk_31 F 2 (F 0 50) 0 0).bind fun y1 =>
  (dk_31 y1.2 0 0 0 0).bind fun y5 =>
  some (0, y5.2)
theorem dkT_224 {d : Nat} {F : wq_F} (hT : wm_T F) {x : Nat × wq_F} (h : dk_224 F = some x) : mq (d + 1 + 1) 224 [36893488147419103232] wm_sh F (wkN wm_T wm_sh x) := by
  have e : ev_ent [36893488147419103232] = [36893488147419103232] := by
    rfl
  refine mq_of (maxL := 1) (rt := none) (code := (ev_un al_mX12_block.2.2.2.2)) (L := [36893488147419103232]) rfl (by rw [e]; exact Nat.le_of_ble_eq_true rfl) (by rw [e]; rfl) ?_
  unfold dk_224 at h
  refine wq_aload_n rfl rfl rfl ?_
  refine wq_iconst rfl rfl ?_
  refine wq_aload_n rfl rfl rfl ?_
  refine wm_getI rfl (by decide) ?_
  refine wq_iconst rfl rfl ?_
  refine wq_iconst rfl rfl ?_
  obtain ⟨y1, e2, h⟩ := od_bindE h
  refine wd_virtN (q := 0) (y := y1) (as := [36893488147419103232, 2, F 0 50, 0, 0]) rfl rfl rfl (by decide) (Nat.le_of_ble_eq_true rfl) (Nat.le_of_ble_eq_true rfl) rfl (Nat.le_of_ble_eq_true rfl) rfl (dkT_31 hT (by decide) (hT.i 50 rfl) (wm_zlt (by decide)) (wm_zlt (by decide)) e2) (fun T4 => ?_)
  refine wq_aload_n rfl rfl rfl ?_
  refine wq_iconst rfl rfl ?_
  refine wq_iconst rfl rfl ?_
  refine wq_iconst rfl rfl ?_
  refine wq_iconst rfl rfl ?_
  obtain ⟨y5, e6, h⟩ := od_bindE h
  refine wd_virtN (q := 0) (y := y5) (as := [36893488147419103232, 0, 0, 0, 0]) rfl rfl rfl (by decide) (Nat.le_of_ble_eq_true rfl) (Nat.le_of_ble_eq_true rfl) rfl (Nat.le_of_ble_eq_true rfl) rfl (dkT_31 T4 (wm_zlt (by decide)) (wm_zlt (by decide)) (wm_zlt (by decide)) (wm_zlt (by decide)) e6) (fun T8 => ?_)
  exact wq_ret rfl (wkON h T8)
/-- X12_openLoop -/
def dk_227 (F : wq_F) : Option (Nat × wq_F) :=
  od_g (F 0 56 < 64) <|
  od_up F 33 (F 0 56) 4294967295 fun F2 =>
  od_g (F2 0 56 < 64) <|
  od_up F2 34 (F2 0 56) (F2 0 53) fun F6 =>
  od_up F6 0 56 (((F6 0 56) + 1) % 4294967296) fun F9 =>
  some (0, F9)
theorem dkT_227 {d : Nat} {F : wq_F} (hT : wm_T F) {x : Nat × wq_F} (h : dk_227 F = some x) : mq (d + 0 + 1) 227 [36893488147419103232] wm_sh F (wkN wm_T wm_sh x) := by
  have e : ev_ent [36893488147419103232] = [36893488147419103232] := by
    rfl
  refine mq_of (maxL := 1) (rt := none) (code := (ev_un al_mX12_openLoop.2.2.2.2)) (L := [36893488147419103232]) rfl (by rw [e]; exact Nat.le_of_ble_eq_true rfl) (by rw [e]; rfl) ?_
  unfold dk_227 at h
  refine wq_aload_n rfl rfl rfl ?_
  refine wm_getR (v := 36893488147419103265) rfl (by decide) (hT.r 54 32 rfl) ?_
  refine wq_aload_n rfl rfl rfl ?_
  refine wm_getI rfl (by decide) ?_
  refine wq_iconst rfl rfl ?_
  obtain ⟨g1, h⟩ := od_gE h
  obtain ⟨F2, e3, h⟩ := od_upE h
  refine wd_iastore (q := 33) (n := 64) rfl rfl (by decide) g1 (by decide) (by decide) e3 ?_
  have T4 : wm_T F2 := wd_T e3 (hT.ua (k := 33) (kd := 1000) (n := 64) (i := F 0 56) (v := 4294967295) rfl (by decide) g1 (show 4294967295 < 4294967296 from (by decide)))
  refine wq_aload_n rfl rfl rfl ?_
  refine wm_getR (v := 36893488147419103266) rfl (by decide) (T4.r 55 33 rfl) ?_
  refine wq_aload_n rfl rfl rfl ?_
  refine wm_getI rfl (by decide) ?_
  refine wq_aload_n rfl rfl rfl ?_
  refine wm_getI rfl (by decide) ?_
  obtain ⟨g5, h⟩ := od_gE h
  obtain ⟨F6, e7, h⟩ := od_upE h
  refine wd_iastore (q := 34) (n := 64) rfl rfl (by decide) g5 (by decide) (T4.i 53 rfl) e7 ?_
  have T8 : wm_T F6 := wd_T e7 (T4.ua (k := 34) (kd := 1000) (n := 64) (i := F2 0 56) (v := F2 0 53) rfl (by decide) g5 (show F2 0 53 < 4294967296 from (T4.i 53 rfl)))
  refine wq_aload_n rfl rfl rfl ?_
  refine wq_dup rfl rfl ?_
  refine wm_getI rfl (by decide) ?_
  refine wq_iconst rfl rfl ?_
  refine wq_iaddZ rfl (T8.i 56 rfl) (wm_zlt (by decide)) (z := ((F6 0 56) + 1) % 4294967296) rfl ?_
  obtain ⟨F9, e10, h⟩ := od_upE h
  refine wmE_put rfl (by decide) (wq_I (Nat.mod_lt _ (by decide))) e10 ?_
  have T11 : wm_T F9 := wd_T e10 (T8.uf (f := 56) (c := 0) (v := ((F6 0 56) + 1) % 4294967296) rfl (show ((F6 0 56) + 1) % 4294967296 < 4294967296 from (Nat.mod_lt _ (by decide))))
  exact wq_ret rfl (wkON h T11)
/-- X12_proto -/
def dk_218 (F : wq_F) : Option (Nat × wq_F) :=
  od_g (F 0 53 < 52) <|
  some (F 32 (F 0 53), F)
theorem dkT_218 {d : Nat} {F : wq_F} (hT : wm_T F) {x : Nat × wq_F} (h : dk_218 F = some x) : mq (d + 0 + 1) 218 [36893488147419103232] wm_sh F (wkI wm_T wm_sh x) := by
  have e : ev_ent [36893488147419103232] = [36893488147419103232] := by
    rfl
  refine mq_of (maxL := 1) (rt := (some .int)) (code := (ev_un al_mX12_proto.2.2.2.2)) (L := [36893488147419103232]) rfl (by rw [e]; exact Nat.le_of_ble_eq_true rfl) (by rw [e]; rfl) ?_
  unfold dk_218 at h
  refine wq_aload_n rfl rfl rfl ?_
  refine wm_getR (v := 36893488147419103264) rfl (by decide) (hT.r 52 31 rfl) ?_
  refine wq_aload_n rfl rfl rfl ?_
  refine wm_getI rfl (by decide) ?_
  obtain ⟨g1, h⟩ := od_gE h
  refine wq_iaload (q := 32) (n := 52) rfl rfl (by decide) g1 (by decide) ?_
  exact wq_iret rfl (hT.ai (k := 32) rfl g1) rfl (wkOI h hT (hT.ai (k := 32) rfl g1))
/-- X12_wrong -/
def dk_211 (F : wq_F) : Option (Nat × wq_F) :=
  od_g (F 0 25 < 1502) <|
  if (F 9 (F 0 25)) = 7 then
    (dk_210 F).bind fun y11 =>
    (dk_209 y11.2 1 y11.1).bind fun y15 =>
    some (y15.1, y15.2)
  else
    (dk_210 F).bind fun y3 =>
    (dk_209 y3.2 2 y3.1).bind fun y7 =>
    some (y7.1, y7.2)
theorem dkT_211 {d : Nat} {F : wq_F} (hT : wm_T F) {x : Nat × wq_F} (h : dk_211 F = some x) : mq (d + 1 + 1) 211 [36893488147419103232] wm_sh F (wkZ wm_T wm_sh x) := by
  have e : ev_ent [36893488147419103232] = [36893488147419103232] := by
    rfl
  refine mq_of (maxL := 1) (rt := (some .boolean)) (code := (ev_un al_mX12_wrong.2.2.2.2)) (L := [36893488147419103232]) rfl (by rw [e]; exact Nat.le_of_ble_eq_true rfl) (by rw [e]; rfl) ?_
  unfold dk_211 at h
  refine wq_aload_n rfl rfl rfl ?_
  refine wq_aload_n rfl rfl rfl ?_
  refine wm_getR (v := 36893488147419103241) rfl (by decide) (hT.r 21 8 rfl) ?_
  refine wq_aload_n rfl rfl rfl ?_
  refine wm_getI rfl (by decide) ?_
  obtain ⟨g1, h⟩ := od_gE h
  refine wq_iaload (q := 9) (n := 1502) rfl rfl (by decide) g1 (by decide) ?_
  refine wq_bipush rfl rfl ?_
  refine wq_ic_ne rfl rfl (hT.ai (k := 9) rfl g1) (by decide) (fun h2 => ?_) (fun h2 => ?_)
  · replace h := od_neg h h2
    refine wq_iconst rfl rfl ?_
    refine wq_aload_n rfl rfl rfl ?_
    obtain ⟨y3, e4, h⟩ := od_bindE h
    refine wd_virtI (q := 0) (y := y3) (as := [36893488147419103232]) rfl rfl rfl (by decide) (Nat.le_of_ble_eq_true rfl) (Nat.le_of_ble_eq_true rfl) rfl (Nat.le_of_ble_eq_true rfl) rfl (dkT_210 hT e4) (fun p5 T6 => ?_)
    obtain ⟨y7, e8, h⟩ := od_bindE h
    refine wd_virtZ (q := 0) (y := y7) (as := [36893488147419103232, 2, y3.1]) rfl rfl rfl (by decide) (Nat.le_of_ble_eq_true rfl) (Nat.le_of_ble_eq_true rfl) rfl (Nat.le_of_ble_eq_true rfl) rfl (dkT_209 T6 (by decide) p5 e8) (fun p9 T10 => ?_)
    exact wq_iret rfl (wm_zlt p9) (Nat.blt_eq.mpr p9) (wkOZ h T10 p9)
  · replace h := od_pos h h2
    refine wq_iconst rfl rfl ?_
    refine wq_goto rfl rfl ?_
    refine wq_aload_n rfl rfl rfl ?_
    obtain ⟨y11, e12, h⟩ := od_bindE h
    refine wd_virtI (q := 0) (y := y11) (as := [36893488147419103232]) rfl rfl rfl (by decide) (Nat.le_of_ble_eq_true rfl) (Nat.le_of_ble_eq_true rfl) rfl (Nat.le_of_ble_eq_true rfl) rfl (dkT_210 hT e12) (fun p13 T14 => ?_)
    obtain ⟨y15, e16, h⟩ := od_bindE h
    refine wd_virtZ (q := 0) (y := y15) (as := [36893488147419103232, 1, y11.1]) rfl rfl rfl (by decide) (Nat.le_of_ble_eq_true rfl) (Nat.le_of_ble_eq_true rfl) rfl (Nat.le_of_ble_eq_true rfl) rfl (dkT_209 T14 (wm_zlt (by decide)) p13 e16) (fun p17 T18 => ?_)
    exact wq_iret rfl (wm_zlt p17) (Nat.blt_eq.mpr p17) (wkOZ h T18 p17)
/-- X12_countLocal -/
def dk_219 (F : wq_F) (a0 : Nat) : Option (Nat × wq_F) :=
  (dk_218 F).bind fun y1 =>
  od_g (y1.1 < 51) <|
  if (y1.2 14 y1.1) = 50 then
    (dk_209 y1.2 3 a0).bind fun y19 =>
    some (4294967295, y19.2)
  else
    od_g (y1.1 < 51) <|
    od_let (((y1.2 14 y1.1) + 1) % 4294967296) fun y8 =>
    od_g (y1.1 < 51) <|
    od_up y1.2 14 y1.1 y8 fun F12 =>
    od_g (y1.1 < 51) <|
    od_let (((F12 14 y1.1) + (4294967296 - 1)) % 4294967296) fun y16 =>
    some (y16, F12)
theorem dkT_219 {d : Nat} {F : wq_F} (hT : wm_T F) {a0 : Nat} (ha0 : a0 < 4294967296) {x : Nat × wq_F} (h : dk_219 F a0 = some x) : mq (d + 1 + 1) 219 [36893488147419103232, a0] wm_sh F (wkI wm_T wm_sh x) := by
  have e : ev_ent [36893488147419103232, a0] = [36893488147419103232, a0] := by
    show 36893488147419103232 :: ev_ent [a0] = _
    rw [wm_entI ha0]
    rfl
  refine mq_of (maxL := 3) (rt := (some .int)) (code := (ev_un al_mX12_countLocal.2.2.2.2)) (L := [36893488147419103232, a0, 73786976294838206464]) rfl (by rw [e]; exact Nat.le_of_ble_eq_true rfl) (by rw [e]; rfl) ?_
  unfold dk_219 at h
  refine wq_aload_n rfl rfl rfl ?_
  obtain ⟨y1, e2, h⟩ := od_bindE h
  refine wd_virtI (q := 0) (y := y1) (as := [36893488147419103232]) rfl rfl rfl (by decide) (Nat.le_of_ble_eq_true rfl) (Nat.le_of_ble_eq_true rfl) rfl (Nat.le_of_ble_eq_true rfl) rfl (dkT_218 hT e2) (fun p3 T4 => ?_)
  refine wq_istore_n rfl p3 (Nat.le_of_ble_eq_true rfl) (Or.inr ⟨_, rfl, (wq_notL ha0)⟩) (L' := [36893488147419103232, a0, y1.1]) rfl ?_
  refine wq_aload_n rfl rfl rfl ?_
  refine wm_getR (v := 36893488147419103246) rfl (by decide) (T4.r 28 13 rfl) ?_
  refine wq_iload_n rfl rfl p3 ?_
  obtain ⟨g5, h⟩ := od_gE h
  refine wq_iaload (q := 14) (n := 51) rfl rfl (by decide) g5 (by decide) ?_
  refine wq_bipush rfl rfl ?_
  refine wq_ic_ne rfl rfl (T4.ai (k := 14) rfl g5) (by decide) (fun h6 => ?_) (fun h6 => ?_)
  · replace h := od_neg h h6
    refine wq_aload_n rfl rfl rfl ?_
    refine wm_getR (v := 36893488147419103246) rfl (by decide) (T4.r 28 13 rfl) ?_
    refine wq_iload_n rfl rfl p3 ?_
    refine wq_dup2 rfl (wq_notL p3) rfl ?_
    obtain ⟨g7, h⟩ := od_gE h
    refine wq_iaload (q := 14) (n := 51) rfl rfl (by decide) g7 (by decide) ?_
    refine wq_iconst rfl rfl ?_
    refine wq_iaddZ rfl (T4.ai (k := 14) rfl g7) (wm_zlt (by decide)) (z := ((y1.2 14 y1.1) + 1) % 4294967296) rfl ?_
    obtain ⟨y8, e9, h⟩ := od_letE h
    refine wq_top e9.symm ?_
    have p10 : y8 < 4294967296 := wd_lt e9 (Nat.mod_lt _ (by decide))
    obtain ⟨g11, h⟩ := od_gE h
    obtain ⟨F12, e13, h⟩ := od_upE h
    refine wd_iastore (q := 14) (n := 51) rfl rfl (by decide) g11 (by decide) p10 e13 ?_
    have T14 : wm_T F12 := wd_T e13 (T4.ua (k := 14) (kd := 1000) (n := 51) (i := y1.1) (v := y8) rfl (by decide) g11 (show y8 < 4294967296 from p10))
    refine wq_aload_n rfl rfl rfl ?_
    refine wm_getR (v := 36893488147419103246) rfl (by decide) (T14.r 28 13 rfl) ?_
    refine wq_iload_n rfl rfl p3 ?_
    obtain ⟨g15, h⟩ := od_gE h
    refine wq_iaload (q := 14) (n := 51) rfl rfl (by decide) g15 (by decide) ?_
    refine wq_iconst rfl rfl ?_
    refine wq_isubZ rfl (T14.ai (k := 14) rfl g15) (wm_zlt (by decide)) (z := ((F12 14 y1.1) + (4294967296 - 1)) % 4294967296) rfl ?_
    obtain ⟨y16, e17, h⟩ := od_letE h
    refine wq_top e17.symm ?_
    have p18 : y16 < 4294967296 := wd_lt e17 (Nat.mod_lt _ (by decide))
    exact wq_iret rfl p18 rfl (wkOI h T14 p18)
  · replace h := od_pos h h6
    refine wq_aload_n rfl rfl rfl ?_
    refine wq_iconst rfl rfl ?_
    refine wq_iload_n rfl rfl ha0 ?_
    obtain ⟨y19, e20, h⟩ := od_bindE h
    refine wd_virtZ (q := 0) (y := y19) (as := [36893488147419103232, 3, a0]) rfl rfl rfl (by decide) (Nat.le_of_ble_eq_true rfl) (Nat.le_of_ble_eq_true rfl) rfl (Nat.le_of_ble_eq_true rfl) rfl (dkT_209 T4 (by decide) ha0 e20) (fun p21 T22 => ?_)
    refine wq_pop rfl (wq_notL (wm_zlt p21)) ?_
    refine wq_iconst rfl rfl ?_
    exact wq_iret rfl (by decide) rfl (wkOI h T22 (by decide))
/-- X12_needWord -/
def dk_214 (F : wq_F) (a0 : Nat) : Option (Nat × wq_F) :=
  (dk_34 F a0).bind fun y1 =>
  if y1.1 = 0 then
    (dk_211 y1.2).bind fun y6 =>
    some (y6.1, y6.2)
  else
    (dk_212 y1.2).bind fun y10 =>
    some (y10.1, y10.2)
theorem dkT_214 {d : Nat} {F : wq_F} (hT : wm_T F) {a0 : Nat} (ha0 : a0 < 4294967296) {x : Nat × wq_F} (h : dk_214 F a0 = some x) : mq (d + 2 + 1) 214 [36893488147419103232, a0] wm_sh F (wkZ wm_T wm_sh x) := by
  have e : ev_ent [36893488147419103232, a0] = [36893488147419103232, a0] := by
    show 36893488147419103232 :: ev_ent [a0] = _
    rw [wm_entI ha0]
    rfl
  refine mq_of (maxL := 2) (rt := (some .boolean)) (code := (ev_un al_mX12_needWord.2.2.2.2)) (L := [36893488147419103232, a0]) rfl (by rw [e]; exact Nat.le_of_ble_eq_true rfl) (by rw [e]; rfl) ?_
  unfold dk_214 at h
  refine wq_aload_n rfl rfl rfl ?_
  refine wq_iload_n rfl rfl ha0 ?_
  obtain ⟨y1, e2, h⟩ := od_bindE h
  refine wd_virtZ (q := 0) (y := y1) (as := [36893488147419103232, a0]) rfl rfl rfl (by decide) (Nat.le_of_ble_eq_true rfl) (Nat.le_of_ble_eq_true rfl) rfl (Nat.le_of_ble_eq_true rfl) rfl (dkT_34 hT ha0 e2) (fun p3 T4 => ?_)
  refine wq_if_eq rfl rfl (wm_zlt p3) (fun h5 => ?_) (fun h5 => ?_)
  · replace h := od_pos h h5
    refine wq_aload_n rfl rfl rfl ?_
    obtain ⟨y6, e7, h⟩ := od_bindE h
    refine wd_virtZ (q := 0) (y := y6) (as := [36893488147419103232]) rfl rfl rfl (by decide) (Nat.le_of_ble_eq_true rfl) (Nat.le_of_ble_eq_true rfl) rfl (Nat.le_of_ble_eq_true rfl) rfl (dkT_211 T4 e7) (fun p8 T9 => ?_)
    exact wq_iret rfl (wm_zlt p8) (Nat.blt_eq.mpr p8) (wkOZ h T9 p8)
  · replace h := od_neg h h5
    refine wq_aload_n rfl rfl rfl ?_
    obtain ⟨y10, e11, h⟩ := od_bindE h
    refine wd_virtZ (q := 0) (y := y10) (as := [36893488147419103232]) rfl rfl rfl (by decide) (Nat.le_of_ble_eq_true rfl) (Nat.le_of_ble_eq_true rfl) rfl (Nat.le_of_ble_eq_true rfl) rfl (dkT_212 T4 e11) (fun p12 T13 => ?_)
    refine wq_goto rfl rfl ?_
    exact wq_iret rfl (wm_zlt p12) (Nat.blt_eq.mpr p12) (wkOZ h T13 p12)
