/-! ===== 75b: the class: methods as functions on memories (by wip/whole2/law73.py, dc.py): 194 X10_scanSign, 77 X4_next, 78 X4_emit, 79 X4_startsStatement, 111 X4_take, 84 X7_height, 168 X7_close, 162 X7_setHeight, 113 X4_cut, 110 X4_expect, 164 X7_breaks, 146 X4_unary, 114 X4_startsExpression, 163 X7_rise, 112 X4_push, 157 X6_addWhole, 161 X7_current, 166 X7_hide, 124 X4_newName, 156 X4_parameters, 167 X7_reveal, 160 X7_leave, 159 X6_land, 185 X10_assignFollows, 135 X4_keyName, 152 X4_separator, 158 X6_wantOfLast, 170 X7_slotOf, 171 X7_capturedOf, 169 X7_resolve, 133 X4_startName, 136 X4_readTail ===== -/
def dk_194_111 (F : wq_F) (s0 : Nat) : Option (Nat × wq_F) :=
  if 2147483648 ≤ s0 then
    od_up F 57 4 1 fun F8 =>
    od_up F8 57 3 (((F8 57 5) + 1) % 4294967296) fun F11 =>
    some (0, F11)
  else
    od_up F 57 4 ((40 + s0) % 4294967296) fun F2 =>
    od_up F2 57 3 (((F2 57 5) + 1) % 4294967296) fun F5 =>
    some (0, F5)
theorem dk_194_111T {d : Nat} : ∀ ⦃u1 : Nat⦄ ⦃u2 : Nat⦄ ⦃u3 : Nat⦄ ⦃F : wq_F⦄ (hT : xm_T F) ⦃s0 : Nat⦄ (hs0 : s0 < 4294967296) (hu1 : ev_isL u1 = false) (hu2 : ev_isL u2 = false) (hu3 : ev_isL u3 = false) ⦃x : Nat × wq_F⦄ (h : dk_194_111 F s0 = some x), wq (wq_cf (d + 4)) (ev_un al_mX10_scanSign.2.2.2.2) none 111 [36893488147419103289, u1, u2, u3, 73786976294838206464] [s0] xm_sh F 0 0 (wkN xm_T xm_sh x) := by
  intro u1 u2 u3 F hT s0 hs0 hu1 hu2 hu3 x h
  unfold dk_194_111 at h
  refine wq_istore rfl hs0 (Nat.le_of_ble_eq_true rfl) (Or.inr ⟨_, rfl, hu3⟩) (L' := [36893488147419103289, u1, u2, u3, s0]) rfl ?_
  refine wq_aload_n rfl rfl rfl ?_
  refine wq_iload rfl rfl hs0 ?_
  refine wq_if_ge rfl rfl hs0 (fun h1 => ?_) (fun h1 => ?_)
  · replace h := od_neg h (Nat.not_le.mpr h1)
    refine wq_bipush rfl rfl ?_
    refine wq_iload rfl rfl hs0 ?_
    refine wq_iaddZ rfl (by decide) hs0 (z := (40 + s0) % 4294967296) rfl ?_
    obtain ⟨F2, e3, h⟩ := od_upE h
    refine xmE_put (q := 57) rfl rfl (by decide) (by decide) (wq_I (Nat.mod_lt _ (by decide))) e3 ?_
    have T4 : xm_T F2 := wd_T e3 (hT.uf (k := 57) (f := 4) (c := 0) (v := (40 + s0) % 4294967296) rfl (by decide) rfl (show (40 + s0) % 4294967296 < 4294967296 from (Nat.mod_lt _ (by decide))))
    refine wq_aload_n rfl rfl rfl ?_
    refine wq_aload_n rfl rfl rfl ?_
    refine xm_getI (q := 57) rfl rfl (by decide) (by decide) ?_
    refine wq_iconst rfl rfl ?_
    refine wq_iaddZ rfl (T4.i (k := 57) 5 rfl (by decide) rfl) (wm_zlt (by decide)) (z := ((F2 57 5) + 1) % 4294967296) rfl ?_
    obtain ⟨F5, e6, h⟩ := od_upE h
    refine xmE_put (q := 57) rfl rfl (by decide) (by decide) (wq_I (Nat.mod_lt _ (by decide))) e6 ?_
    have T7 : xm_T F5 := wd_T e6 (T4.uf (k := 57) (f := 3) (c := 0) (v := ((F2 57 5) + 1) % 4294967296) rfl (by decide) rfl (show ((F2 57 5) + 1) % 4294967296 < 4294967296 from (Nat.mod_lt _ (by decide))))
    exact wq_ret rfl (wkON h T7)
  · replace h := od_pos h h1
    refine wq_iconst rfl rfl ?_
    refine wq_goto rfl rfl ?_
    obtain ⟨F8, e9, h⟩ := od_upE h
    refine xmE_put (q := 57) rfl rfl (by decide) (by decide) (wq_I (wm_zlt (by decide))) e9 ?_
    have T10 : xm_T F8 := wd_T e9 (hT.uf (k := 57) (f := 4) (c := 0) (v := 1) rfl (by decide) rfl (show 1 < 4294967296 from (wm_zlt (by decide))))
    refine wq_aload_n rfl rfl rfl ?_
    refine wq_aload_n rfl rfl rfl ?_
    refine xm_getI (q := 57) rfl rfl (by decide) (by decide) ?_
    refine wq_iconst rfl rfl ?_
    refine wq_iaddZ rfl (T10.i (k := 57) 5 rfl (by decide) rfl) (wm_zlt (by decide)) (z := ((F8 57 5) + 1) % 4294967296) rfl ?_
    obtain ⟨F11, e12, h⟩ := od_upE h
    refine xmE_put (q := 57) rfl rfl (by decide) (by decide) (wq_I (Nat.mod_lt _ (by decide))) e12 ?_
    have T13 : xm_T F11 := wd_T e12 (T10.uf (k := 57) (f := 3) (c := 0) (v := ((F8 57 5) + 1) % 4294967296) rfl (by decide) rfl (show ((F8 57 5) + 1) % 4294967296 < 4294967296 from (Nat.mod_lt _ (by decide))))
    exact wq_ret rfl (wkON h T13)
def dk_194_73 (F : wq_F) (v1 : Nat) (v3 : Nat) : Option (Nat × wq_F) :=
  if v3 = 1 then
    if 2147483648 ≤ v1 then
      dk_194_111 F 4294967295
    else
      od_g (ev_oI2c v1 < 128) <|
      dk_194_111 F (lx_ix (ev_oI2c v1))
  else
    od_up F 57 4 v3 fun F4 =>
    od_up F4 57 3 (((F4 57 5) + 2) % 4294967296) fun F7 =>
    some (0, F7)
theorem dk_194_73T {d : Nat} : ∀ ⦃u2 : Nat⦄ ⦃F : wq_F⦄ (hT : xm_T F) ⦃v1 : Nat⦄ (hv1 : v1 < 4294967296) ⦃v3 : Nat⦄ (hv3 : v3 < 4294967296) (hu2 : ev_isL u2 = false) ⦃x : Nat × wq_F⦄ (h : dk_194_73 F v1 v3 = some x), wq (wq_cf (d + 4)) (ev_un al_mX10_scanSign.2.2.2.2) none 73 [36893488147419103289, v1, u2, v3, 73786976294838206464] [] xm_sh F 0 0 (wkN xm_T xm_sh x) := by
  intro u2 F hT v1 hv1 v3 hv3 hu2 x h
  unfold dk_194_73 at h
  refine wq_iload_n rfl rfl hv3 ?_
  refine wq_iconst rfl rfl ?_
  refine wq_ic_eq rfl rfl hv3 (wm_zlt (by decide)) (fun h1 => ?_) (fun h1 => ?_)
  · replace h := od_pos h h1
    refine wq_iload_n rfl rfl hv1 ?_
    refine wq_if_ge rfl rfl hv1 (fun h2 => ?_) (fun h2 => ?_)
    · replace h := od_neg h (Nat.not_le.mpr h2)
      refine wq_ldcK (a := 92233720368547758093) rfl rfl rfl (by decide) ?_
      refine wq_iload_n rfl rfl hv1 ?_
      refine wq_i2c rfl hv1 ?_
      obtain ⟨g3, h⟩ := od_gE h
      refine wq_ixK (x := lx_ix (ev_oI2c v1)) rfl rfl rfl (Nat.le_of_ble_eq_true rfl) (lx_ixT g3) ?_
      exact dk_194_111T hT (lx_ix_lt _) (wq_notL hv1) hu2 (wq_notL hv3) h
    · replace h := od_pos h h2
      refine wq_iconst rfl rfl ?_
      refine wq_goto rfl rfl ?_
      exact dk_194_111T hT (by decide) (wq_notL hv1) hu2 (wq_notL hv3) h
  · replace h := od_neg h h1
    refine wq_aload_n rfl rfl rfl ?_
    refine wq_iload_n rfl rfl hv3 ?_
    obtain ⟨F4, e5, h⟩ := od_upE h
    refine xmE_put (q := 57) rfl rfl (by decide) (by decide) (wq_I hv3) e5 ?_
    have T6 : xm_T F4 := wd_T e5 (hT.uf (k := 57) (f := 4) (c := 0) (v := v3) rfl (by decide) rfl (show v3 < 4294967296 from hv3))
    refine wq_aload_n rfl rfl rfl ?_
    refine wq_aload_n rfl rfl rfl ?_
    refine xm_getI (q := 57) rfl rfl (by decide) (by decide) ?_
    refine wq_iconst rfl rfl ?_
    refine wq_iaddZ rfl (T6.i (k := 57) 5 rfl (by decide) rfl) (by decide) (z := ((F4 57 5) + 2) % 4294967296) rfl ?_
    obtain ⟨F7, e8, h⟩ := od_upE h
    refine xmE_put (q := 57) rfl rfl (by decide) (by decide) (wq_I (Nat.mod_lt _ (by decide))) e8 ?_
    have T9 : xm_T F7 := wd_T e8 (T6.uf (k := 57) (f := 3) (c := 0) (v := ((F4 57 5) + 2) % 4294967296) rfl (by decide) rfl (show ((F4 57 5) + 2) % 4294967296 < 4294967296 from (Nat.mod_lt _ (by decide))))
    refine wq_goto rfl rfl ?_
    exact wq_ret rfl (wkON h T9)
/-- X10_scanSign -/
def dk_194 (F : wq_F) : Option (Nat × wq_F) :=
  od_g (F 57 5 < 6000) <|
  (dk_186 F (((F 57 5) + 1) % 4294967296)).bind fun y2 =>
  (dk_195 y2.2 (F 1 (F 57 5)) y2.1).bind fun y6 =>
  if (F 1 (F 57 5)) = 46 then
    if y2.1 = 46 then
      od_let (((y6.2 57 5) + 2) % 4294967296) fun y12 =>
      (dk_186 y6.2 y12).bind fun y15 =>
      if y15.1 = 46 then
        od_up y15.2 57 4 65 fun F20 =>
        od_let (((F20 57 5) + 3) % 4294967296) fun y23 =>
        od_up F20 57 3 y23 fun F26 =>
        some (0, F26)
      else
        dk_194_73 y15.2 (F 1 (F 57 5)) y6.1
    else
      dk_194_73 y6.2 (F 1 (F 57 5)) y6.1
  else
    dk_194_73 y6.2 (F 1 (F 57 5)) y6.1
theorem dkT_194 {d : Nat} {F : wq_F} (hT : xm_T F) {x : Nat × wq_F} (h : dk_194 F = some x) : mq (d + 4 + 1) 194 [36893488147419103289] xm_sh F (wkN xm_T xm_sh x) := by
  have e : ev_ent [36893488147419103289] = [36893488147419103289] := by
    rfl
  refine mq_of (maxL := 5) (rt := none) (code := (ev_un al_mX10_scanSign.2.2.2.2)) (L := [36893488147419103289, 73786976294838206464, 73786976294838206464, 73786976294838206464, 73786976294838206464]) rfl (by rw [e]; exact Nat.le_of_ble_eq_true rfl) (by rw [e]; rfl) ?_
  unfold dk_194 at h
  refine wq_aload_n rfl rfl rfl ?_
  refine xm_getR (v := 36893488147419103233) (q := 57) rfl rfl (by decide) (by decide) (hT.r (k := 57) 0 0 rfl (by decide) rfl) ?_
  refine wq_aload_n rfl rfl rfl ?_
  refine xm_getI (q := 57) rfl rfl (by decide) (by decide) ?_
  obtain ⟨g1, h⟩ := od_gE h
  refine wq_baload (q := 1) (n := 6000) rfl rfl (by decide) g1 (by decide) ?_
  refine wq_istore_n rfl (hT.ab (k := 1) rfl g1) (Nat.le_of_ble_eq_true rfl) (Or.inr ⟨_, rfl, rfl⟩) (L' := [36893488147419103289, F 1 (F 57 5), 73786976294838206464, 73786976294838206464, 73786976294838206464]) rfl ?_
  refine wq_aload_n rfl rfl rfl ?_
  refine wq_aload_n rfl rfl rfl ?_
  refine xm_getI (q := 57) rfl rfl (by decide) (by decide) ?_
  refine wq_iconst rfl rfl ?_
  refine wq_iaddZ rfl (hT.i (k := 57) 5 rfl (by decide) rfl) (wm_zlt (by decide)) (z := ((F 57 5) + 1) % 4294967296) rfl ?_
  obtain ⟨y2, e3, h⟩ := od_bindE h
  refine wd_virtI (q := 57) (y := y2) (as := [36893488147419103289, ((F 57 5) + 1) % 4294967296]) rfl rfl rfl (by decide) (Nat.le_of_ble_eq_true rfl) (Nat.le_of_ble_eq_true rfl) rfl (Nat.le_of_ble_eq_true rfl) rfl (dkT_186 hT (Nat.mod_lt _ (by decide)) e3) (fun p4 T5 => ?_)
  refine wq_istore_n rfl p4 (Nat.le_of_ble_eq_true rfl) (Or.inr ⟨_, rfl, (wq_notL (hT.ab (k := 1) rfl g1))⟩) (L' := [36893488147419103289, F 1 (F 57 5), y2.1, 73786976294838206464, 73786976294838206464]) rfl ?_
  refine wq_iload_n rfl rfl (hT.ab (k := 1) rfl g1) ?_
  refine wq_iload_n rfl rfl p4 ?_
  obtain ⟨y6, e7, h⟩ := od_bindE h
  refine wd_statI (y := y6) (as := [F 1 (F 57 5), y2.1]) rfl (by decide) (Nat.le_of_ble_eq_true rfl) rfl (Nat.le_of_ble_eq_true rfl) rfl (dkT_195 T5 (hT.ab (k := 1) rfl g1) p4 e7) (fun p8 T9 => ?_)
  refine wq_istore_n rfl p8 (Nat.le_of_ble_eq_true rfl) (Or.inr ⟨_, rfl, (wq_notL p4)⟩) (L' := [36893488147419103289, F 1 (F 57 5), y2.1, y6.1, 73786976294838206464]) rfl ?_
  refine wq_iload_n rfl rfl (hT.ab (k := 1) rfl g1) ?_
  refine wq_bipush rfl rfl ?_
  refine wq_ic_ne rfl rfl (hT.ab (k := 1) rfl g1) (by decide) (fun h10 => ?_) (fun h10 => ?_)
  · replace h := od_neg h h10
    exact dk_194_73T T9 (hT.ab (k := 1) rfl g1) p8 (wq_notL p4) h
  · replace h := od_pos h h10
    refine wq_iload_n rfl rfl p4 ?_
    refine wq_bipush rfl rfl ?_
    refine wq_ic_ne rfl rfl p4 (by decide) (fun h11 => ?_) (fun h11 => ?_)
    · replace h := od_neg h h11
      exact dk_194_73T T9 (hT.ab (k := 1) rfl g1) p8 (wq_notL p4) h
    · replace h := od_pos h h11
      refine wq_aload_n rfl rfl rfl ?_
      refine wq_aload_n rfl rfl rfl ?_
      refine xm_getI (q := 57) rfl rfl (by decide) (by decide) ?_
      refine wq_iconst rfl rfl ?_
      refine wq_iaddZ rfl (T9.i (k := 57) 5 rfl (by decide) rfl) (by decide) (z := ((y6.2 57 5) + 2) % 4294967296) rfl ?_
      obtain ⟨y12, e13, h⟩ := od_letE h
      refine wq_top e13.symm ?_
      have p14 : y12 < 4294967296 := wd_lt e13 (Nat.mod_lt _ (by decide))
      obtain ⟨y15, e16, h⟩ := od_bindE h
      refine wd_virtI (q := 57) (y := y15) (as := [36893488147419103289, y12]) rfl rfl rfl (by decide) (Nat.le_of_ble_eq_true rfl) (Nat.le_of_ble_eq_true rfl) rfl (Nat.le_of_ble_eq_true rfl) rfl (dkT_186 T9 p14 e16) (fun p17 T18 => ?_)
      refine wq_bipush rfl rfl ?_
      refine wq_ic_ne rfl rfl p17 (by decide) (fun h19 => ?_) (fun h19 => ?_)
      · replace h := od_neg h h19
        exact dk_194_73T T18 (hT.ab (k := 1) rfl g1) p8 (wq_notL p4) h
      · replace h := od_pos h h19
        refine wq_aload_n rfl rfl rfl ?_
        refine wq_bipush rfl rfl ?_
        obtain ⟨F20, e21, h⟩ := od_upE h
        refine xmE_put (q := 57) rfl rfl (by decide) (by decide) (wq_I (by decide)) e21 ?_
        have T22 : xm_T F20 := wd_T e21 (T18.uf (k := 57) (f := 4) (c := 0) (v := 65) rfl (by decide) rfl (show 65 < 4294967296 from (by decide)))
        refine wq_aload_n rfl rfl rfl ?_
        refine wq_aload_n rfl rfl rfl ?_
        refine xm_getI (q := 57) rfl rfl (by decide) (by decide) ?_
        refine wq_iconst rfl rfl ?_
        refine wq_iaddZ rfl (T22.i (k := 57) 5 rfl (by decide) rfl) (by decide) (z := ((F20 57 5) + 3) % 4294967296) rfl ?_
        obtain ⟨y23, e24, h⟩ := od_letE h
        refine wq_top e24.symm ?_
        have p25 : y23 < 4294967296 := wd_lt e24 (Nat.mod_lt _ (by decide))
        obtain ⟨F26, e27, h⟩ := od_upE h
        refine xmE_put (q := 57) rfl rfl (by decide) (by decide) (wq_I p25) e27 ?_
        have T28 : xm_T F26 := wd_T e27 (T22.uf (k := 57) (f := 3) (c := 0) (v := y23) rfl (by decide) rfl (show y23 < 4294967296 from p25))
        refine wq_goto rfl rfl ?_
        exact wq_ret rfl (wkON h T28)
def dk_77_28 (n : Nat) (F : wq_F) : Option (Nat × wq_F) :=
  (dk_73 n F).bind fun y1 =>
  if y1.1 = 1 then
    (dk_194 y1.2).bind fun y7 =>
    some (0, y7.2)
  else if y1.1 = 2 then
    (dk_190 n y1.2).bind fun y13 =>
    some (0, y13.2)
  else if y1.1 = 3 then
    (dk_191 y1.2).bind fun y19 =>
    some (0, y19.2)
  else if y1.1 = 4 then
    (dk_192 n y1.2).bind fun y25 =>
    some (0, y25.2)
  else 
  some (0, y1.2)
theorem dk_77_28T {d n : Nat} : ∀ ⦃F : wq_F⦄ (hT : xm_T F) ⦃x : Nat × wq_F⦄ (h : dk_77_28 n F = some x), wq (wq_cf (d + 5)) (ev_un al_mX4_next.2.2.2.2) none 28 [36893488147419103288] [] xm_sh F 0 0 (wkN xm_T xm_sh x) := by
  intro F hT x h
  unfold dk_77_28 at h
  refine wq_aload_n rfl rfl rfl ?_
  refine xm_getR (v := 36893488147419103289) (q := 56) rfl rfl (by decide) (by decide) (hT.r (k := 56) 0 56 rfl (by decide) rfl) ?_
  obtain ⟨y1, e2, h⟩ := od_bindE h
  refine wd_virtI (q := 57) (y := y1) (as := [36893488147419103289]) rfl rfl rfl (by decide) (Nat.le_of_ble_eq_true rfl) (Nat.le_of_ble_eq_true rfl) rfl (Nat.le_of_ble_eq_true rfl) rfl (dkT_73 hT e2) (fun p3 T4 => ?_)
  have i5 : y1.1 < 1 ∨ 1 ≤ y1.1 := Nat.lt_or_ge _ _
  by_cases h6 : y1.1 = 1
  case pos =>
    replace h := od_pos h h6
    refine wq_top h6 ?_
    refine wq_tsw rfl (by decide) (tgt := 94) rfl ?_
    refine wq_aload_n rfl rfl rfl ?_
    refine xm_getR (v := 36893488147419103289) (q := 56) rfl rfl (by decide) (by decide) (T4.r (k := 56) 0 56 rfl (by decide) rfl) ?_
    obtain ⟨y7, e8, h⟩ := od_bindE h
    refine wd_virtN (q := 57) (y := y7) (as := [36893488147419103289]) rfl rfl rfl (by decide) (Nat.le_of_ble_eq_true rfl) (Nat.le_of_ble_eq_true rfl) rfl (Nat.le_of_ble_eq_true rfl) rfl (dkT_194 T4 e8) (fun T10 => ?_)
    refine wq_goto rfl rfl ?_
    exact wq_ret rfl (wkON h T10)
  replace h := od_neg h h6
  have i11 : y1.1 < 1 ∨ 2 ≤ y1.1 := by omega
  clear i5
  by_cases h12 : y1.1 = 2
  case pos =>
    replace h := od_pos h h12
    refine wq_top h12 ?_
    refine wq_tsw rfl (by decide) (tgt := 64) rfl ?_
    refine wq_aload_n rfl rfl rfl ?_
    refine xm_getR (v := 36893488147419103289) (q := 56) rfl rfl (by decide) (by decide) (T4.r (k := 56) 0 56 rfl (by decide) rfl) ?_
    obtain ⟨y13, e14, h⟩ := od_bindE h
    refine wd_virtN (q := 57) (y := y13) (as := [36893488147419103289]) rfl rfl rfl (by decide) (Nat.le_of_ble_eq_true rfl) (Nat.le_of_ble_eq_true rfl) rfl (Nat.le_of_ble_eq_true rfl) rfl (dkT_190 T4 e14) (fun T16 => ?_)
    refine wq_goto rfl rfl ?_
    exact wq_ret rfl (wkON h T16)
  replace h := od_neg h h12
  have i17 : y1.1 < 1 ∨ 3 ≤ y1.1 := by omega
  clear i11
  by_cases h18 : y1.1 = 3
  case pos =>
    replace h := od_pos h h18
    refine wq_top h18 ?_
    refine wq_tsw rfl (by decide) (tgt := 74) rfl ?_
    refine wq_aload_n rfl rfl rfl ?_
    refine xm_getR (v := 36893488147419103289) (q := 56) rfl rfl (by decide) (by decide) (T4.r (k := 56) 0 56 rfl (by decide) rfl) ?_
    obtain ⟨y19, e20, h⟩ := od_bindE h
    refine wd_virtN (q := 57) (y := y19) (as := [36893488147419103289]) rfl rfl rfl (by decide) (Nat.le_of_ble_eq_true rfl) (Nat.le_of_ble_eq_true rfl) rfl (Nat.le_of_ble_eq_true rfl) rfl (dkT_191 T4 e20) (fun T22 => ?_)
    refine wq_goto rfl rfl ?_
    exact wq_ret rfl (wkON h T22)
  replace h := od_neg h h18
  have i23 : y1.1 < 1 ∨ 4 ≤ y1.1 := by omega
  clear i17
  by_cases h24 : y1.1 = 4
  case pos =>
    replace h := od_pos h h24
    refine wq_top h24 ?_
    refine wq_tsw rfl (by decide) (tgt := 84) rfl ?_
    refine wq_aload_n rfl rfl rfl ?_
    refine xm_getR (v := 36893488147419103289) (q := 56) rfl rfl (by decide) (by decide) (T4.r (k := 56) 0 56 rfl (by decide) rfl) ?_
    obtain ⟨y25, e26, h⟩ := od_bindE h
    refine wd_virtN (q := 57) (y := y25) (as := [36893488147419103289]) rfl rfl rfl (by decide) (Nat.le_of_ble_eq_true rfl) (Nat.le_of_ble_eq_true rfl) rfl (Nat.le_of_ble_eq_true rfl) rfl (dkT_192 T4 e26) (fun T28 => ?_)
    refine wq_goto rfl rfl ?_
    exact wq_ret rfl (wkON h T28)
  replace h := od_neg h h24
  have i29 : y1.1 < 1 ∨ 5 ≤ y1.1 := by omega
  clear i23
  refine wq_tswD rfl p3 (by unfold ev_si ev_s; omega) rfl (tgt := 104) rfl ?_
  exact wq_ret rfl (wkON h T4)
/-- X4_next -/
def dk_77 (n : Nat) (F : wq_F) : Option (Nat × wq_F) :=
  if ev_s 1500 < ev_s (F 57 7) then
    if (F 57 4) = 0 then
      dk_77_28 n F
    else
      (dk_109 F 3).bind fun y3 =>
      dk_77_28 n y3.2
  else
    dk_77_28 n F
theorem dkT_77 {d n : Nat} {F : wq_F} (hT : xm_T F) {x : Nat × wq_F} (h : dk_77 n F = some x) : mq (d + 5 + 1) 77 [36893488147419103288] xm_sh F (wkN xm_T xm_sh x) := by
  have e : ev_ent [36893488147419103288] = [36893488147419103288] := by
    rfl
  refine mq_of (maxL := 1) (rt := none) (code := (ev_un al_mX4_next.2.2.2.2)) (L := [36893488147419103288]) rfl (by rw [e]; exact Nat.le_of_ble_eq_true rfl) (by rw [e]; rfl) ?_
  unfold dk_77 at h
  refine wq_aload_n rfl rfl rfl ?_
  refine xm_getR (v := 36893488147419103289) (q := 56) rfl rfl (by decide) (by decide) (hT.r (k := 56) 0 56 rfl (by decide) rfl) ?_
  refine xm_getI (q := 57) rfl rfl (by decide) (by decide) ?_
  refine wq_sipush rfl rfl ?_
  refine wq_ic_le rfl rfl (hT.i (k := 57) 7 rfl (by decide) rfl) (by decide) (fun h1 => ?_) (fun h1 => ?_)
  · replace h := od_neg h (Nat.not_lt.mpr h1)
    exact dk_77_28T hT h
  · replace h := od_pos h h1
    refine wq_aload_n rfl rfl rfl ?_
    refine xm_getR (v := 36893488147419103289) (q := 56) rfl rfl (by decide) (by decide) (hT.r (k := 56) 0 56 rfl (by decide) rfl) ?_
    refine xm_getI (q := 57) rfl rfl (by decide) (by decide) ?_
    refine wq_if_eq rfl rfl (hT.i (k := 57) 4 rfl (by decide) rfl) (fun h2 => ?_) (fun h2 => ?_)
    · replace h := od_pos h h2
      exact dk_77_28T hT h
    · replace h := od_neg h h2
      refine wq_aload_n rfl rfl rfl ?_
      refine wq_iconst rfl rfl ?_
      obtain ⟨y3, e4, h⟩ := od_bindE h
      refine wd_virtN (q := 56) (y := y3) (as := [36893488147419103288, 3]) rfl rfl rfl (by decide) (Nat.le_of_ble_eq_true rfl) (Nat.le_of_ble_eq_true rfl) rfl (Nat.le_of_ble_eq_true rfl) rfl (dkT_109 hT (by decide) e4) (fun T6 => ?_)
      exact dk_77_28T T6 h
/-- X4_emit -/
def dk_78 (F : wq_F) (a0 : Nat) (a1 : Nat) (a2 : Nat) (a3 : Nat) : Option (Nat × wq_F) :=
  (dk_58 F a0 a1 a2 a3).bind fun y1 =>
  some (y1.1, y1.2)
theorem dkT_78 {d : Nat} {F : wq_F} (hT : xm_T F) {a0 : Nat} (ha0 : a0 < 4294967296) {a1 : Nat} (ha1 : a1 < 4294967296) {a2 : Nat} (ha2 : a2 < 4294967296) {a3 : Nat} (ha3 : a3 < 4294967296) {x : Nat × wq_F} (h : dk_78 F a0 a1 a2 a3 = some x) : mq (d + 1 + 1) 78 [36893488147419103288, a0, a1, a2, a3] xm_sh F (wkI xm_T xm_sh x) := by
  have e : ev_ent [36893488147419103288, a0, a1, a2, a3] = [36893488147419103288, a0, a1, a2, a3] := by
    show 36893488147419103288 :: ev_ent [a0, a1, a2, a3] = _
    rw [wm_entI ha0, wm_entI ha1, wm_entI ha2, wm_entI ha3]
    rfl
  refine mq_of (maxL := 5) (rt := (some .int)) (code := (ev_un al_mX4_emit.2.2.2.2)) (L := [36893488147419103288, a0, a1, a2, a3]) rfl (by rw [e]; exact Nat.le_of_ble_eq_true rfl) (by rw [e]; rfl) ?_
  unfold dk_78 at h
  refine wq_aload_n rfl rfl rfl ?_
  refine xm_getR (v := 36893488147419103243) (q := 56) rfl rfl (by decide) (by decide) (hT.r (k := 56) 1 10 rfl (by decide) rfl) ?_
  refine wq_iload_n rfl rfl ha0 ?_
  refine wq_iload_n rfl rfl ha1 ?_
  refine wq_iload_n rfl rfl ha2 ?_
  refine wq_iload rfl rfl ha3 ?_
  obtain ⟨y1, e2, h⟩ := od_bindE h
  refine wd_virtI (q := 11) (y := y1) (as := [36893488147419103243, a0, a1, a2, a3]) rfl rfl rfl (by decide) (Nat.le_of_ble_eq_true rfl) (Nat.le_of_ble_eq_true rfl) rfl (Nat.le_of_ble_eq_true rfl) rfl (dkT_58 hT ha0 ha1 ha2 ha3 e2) (fun p3 T4 => ?_)
  exact wq_iret rfl p3 rfl (wkOI h T4 p3)
/-- X4_startsStatement -/
def dk_79 (F : wq_F) : Option (Nat × wq_F) :=
  od_let (F 57 4) fun y1 =>
  if y1 = 2 then
    some (1, F)
  else if y1 = 11 then
    some (1, F)
  else if y1 = 12 then
    some (1, F)
  else if y1 = 17 then
    some (1, F)
  else if y1 = 18 then
    some (1, F)
  else if y1 = 19 then
    some (1, F)
  else if y1 = 21 then
    some (1, F)
  else if y1 = 25 then
    some (1, F)
  else if y1 = 30 then
    some (1, F)
  else if y1 = 51 then
    some (1, F)
  else if y1 = 57 then
    some (1, F)
  else 
  some (0, F)
theorem dkT_79 {d : Nat} {F : wq_F} (hT : xm_T F) {x : Nat × wq_F} (h : dk_79 F = some x) : mq (d + 0 + 1) 79 [36893488147419103288] xm_sh F (wkZ xm_T xm_sh x) := by
  have e : ev_ent [36893488147419103288] = [36893488147419103288] := by
    rfl
  refine mq_of (maxL := 1) (rt := (some .boolean)) (code := (ev_un al_mX4_startsStatement.2.2.2.2)) (L := [36893488147419103288]) rfl (by rw [e]; exact Nat.le_of_ble_eq_true rfl) (by rw [e]; rfl) ?_
  unfold dk_79 at h
  refine wq_aload_n rfl rfl rfl ?_
  refine xm_getR (v := 36893488147419103289) (q := 56) rfl rfl (by decide) (by decide) (hT.r (k := 56) 0 56 rfl (by decide) rfl) ?_
  refine xm_getI (q := 57) rfl rfl (by decide) (by decide) ?_
  obtain ⟨y1, e2, h⟩ := od_letE h
  refine wq_top e2.symm ?_
  have p3 : y1 < 4294967296 := wd_lt e2 (hT.i (k := 57) 4 rfl (by decide) rfl)
  by_cases h4 : y1 = 2
  case pos =>
    replace h := od_pos h h4
    refine wq_top h4 ?_
    refine wq_lsw rfl (by decide) rfl (tgt := 104) rfl ?_
    refine wq_iconst rfl rfl ?_
    exact wq_iret rfl (wm_zlt (by decide)) (Nat.blt_eq.mpr (by decide)) (wkOZ h hT (by decide))
  replace h := od_neg h h4
  by_cases h5 : y1 = 11
  case pos =>
    replace h := od_pos h h5
    refine wq_top h5 ?_
    refine wq_lsw rfl (by decide) rfl (tgt := 104) rfl ?_
    refine wq_iconst rfl rfl ?_
    exact wq_iret rfl (wm_zlt (by decide)) (Nat.blt_eq.mpr (by decide)) (wkOZ h hT (by decide))
  replace h := od_neg h h5
  by_cases h6 : y1 = 12
  case pos =>
    replace h := od_pos h h6
    refine wq_top h6 ?_
    refine wq_lsw rfl (by decide) rfl (tgt := 104) rfl ?_
    refine wq_iconst rfl rfl ?_
    exact wq_iret rfl (wm_zlt (by decide)) (Nat.blt_eq.mpr (by decide)) (wkOZ h hT (by decide))
  replace h := od_neg h h6
  by_cases h7 : y1 = 17
  case pos =>
    replace h := od_pos h h7
    refine wq_top h7 ?_
    refine wq_lsw rfl (by decide) rfl (tgt := 104) rfl ?_
    refine wq_iconst rfl rfl ?_
    exact wq_iret rfl (wm_zlt (by decide)) (Nat.blt_eq.mpr (by decide)) (wkOZ h hT (by decide))
  replace h := od_neg h h7
  by_cases h8 : y1 = 18
  case pos =>
    replace h := od_pos h h8
    refine wq_top h8 ?_
    refine wq_lsw rfl (by decide) rfl (tgt := 104) rfl ?_
    refine wq_iconst rfl rfl ?_
    exact wq_iret rfl (wm_zlt (by decide)) (Nat.blt_eq.mpr (by decide)) (wkOZ h hT (by decide))
  replace h := od_neg h h8
  by_cases h9 : y1 = 19
  case pos =>
    replace h := od_pos h h9
    refine wq_top h9 ?_
    refine wq_lsw rfl (by decide) rfl (tgt := 104) rfl ?_
    refine wq_iconst rfl rfl ?_
    exact wq_iret rfl (wm_zlt (by decide)) (Nat.blt_eq.mpr (by decide)) (wkOZ h hT (by decide))
  replace h := od_neg h h9
  by_cases h10 : y1 = 21
  case pos =>
    replace h := od_pos h h10
    refine wq_top h10 ?_
    refine wq_lsw rfl (by decide) rfl (tgt := 104) rfl ?_
    refine wq_iconst rfl rfl ?_
    exact wq_iret rfl (wm_zlt (by decide)) (Nat.blt_eq.mpr (by decide)) (wkOZ h hT (by decide))
  replace h := od_neg h h10
  by_cases h11 : y1 = 25
  case pos =>
    replace h := od_pos h h11
    refine wq_top h11 ?_
    refine wq_lsw rfl (by decide) rfl (tgt := 104) rfl ?_
    refine wq_iconst rfl rfl ?_
    exact wq_iret rfl (wm_zlt (by decide)) (Nat.blt_eq.mpr (by decide)) (wkOZ h hT (by decide))
  replace h := od_neg h h11
  by_cases h12 : y1 = 30
  case pos =>
    replace h := od_pos h h12
    refine wq_top h12 ?_
    refine wq_lsw rfl (by decide) rfl (tgt := 104) rfl ?_
    refine wq_iconst rfl rfl ?_
    exact wq_iret rfl (wm_zlt (by decide)) (Nat.blt_eq.mpr (by decide)) (wkOZ h hT (by decide))
  replace h := od_neg h h12
  by_cases h13 : y1 = 51
  case pos =>
    replace h := od_pos h h13
    refine wq_top h13 ?_
    refine wq_lsw rfl (by decide) rfl (tgt := 104) rfl ?_
    refine wq_iconst rfl rfl ?_
    exact wq_iret rfl (wm_zlt (by decide)) (Nat.blt_eq.mpr (by decide)) (wkOZ h hT (by decide))
  replace h := od_neg h h13
  by_cases h14 : y1 = 57
  case pos =>
    replace h := od_pos h h14
    refine wq_top h14 ?_
    refine wq_lsw rfl (by decide) rfl (tgt := 104) rfl ?_
    refine wq_iconst rfl rfl ?_
    exact wq_iret rfl (wm_zlt (by decide)) (Nat.blt_eq.mpr (by decide)) (wkOZ h hT (by decide))
  replace h := od_neg h h14
  refine wq_lswD rfl p3 rfl (List.forall_mem_cons.mpr ⟨wq_siNe (v := 2) p3 (by decide) h4, (List.forall_mem_cons.mpr ⟨wq_siNe (v := 11) p3 (by decide) h5, (List.forall_mem_cons.mpr ⟨wq_siNe (v := 12) p3 (by decide) h6, (List.forall_mem_cons.mpr ⟨wq_siNe (v := 17) p3 (by decide) h7, (List.forall_mem_cons.mpr ⟨wq_siNe (v := 18) p3 (by decide) h8, (List.forall_mem_cons.mpr ⟨wq_siNe (v := 19) p3 (by decide) h9, (List.forall_mem_cons.mpr ⟨wq_siNe (v := 21) p3 (by decide) h10, (List.forall_mem_cons.mpr ⟨wq_siNe (v := 25) p3 (by decide) h11, (List.forall_mem_cons.mpr ⟨wq_siNe (v := 30) p3 (by decide) h12, (List.forall_mem_cons.mpr ⟨wq_siNe (v := 51) p3 (by decide) h13, (List.forall_mem_cons.mpr ⟨wq_siNe (v := 57) p3 (by decide) h14, (fun _ h => absurd h List.not_mem_nil)⟩)⟩)⟩)⟩)⟩)⟩)⟩)⟩)⟩)⟩)⟩) rfl (tgt := 106) rfl ?_
  refine wq_iconst rfl rfl ?_
  exact wq_iret rfl (wm_zlt (by decide)) (Nat.blt_eq.mpr (by decide)) (wkOZ h hT (by decide))
/-- X4_take -/
def dk_111 (n : Nat) (F : wq_F) (a0 : Nat) : Option (Nat × wq_F) :=
  if (F 57 4) = a0 then
    if 1 = 0 then
      some (1, F)
    else
      (dk_77 n F).bind fun y8 =>
      some (1, y8.2)
  else
    if 0 = 0 then
      some (0, F)
    else
      (dk_77 n F).bind fun y3 =>
      some (0, y3.2)
theorem dkT_111 {d n : Nat} {F : wq_F} (hT : xm_T F) {a0 : Nat} (ha0 : a0 < 4294967296) {x : Nat × wq_F} (h : dk_111 n F a0 = some x) : mq (d + 6 + 1) 111 [36893488147419103288, a0] xm_sh F (wkZ xm_T xm_sh x) := by
  have e : ev_ent [36893488147419103288, a0] = [36893488147419103288, a0] := by
    show 36893488147419103288 :: ev_ent [a0] = _
    rw [wm_entI ha0]
    rfl
  refine mq_of (maxL := 3) (rt := (some .boolean)) (code := (ev_un al_mX4_take.2.2.2.2)) (L := [36893488147419103288, a0, 73786976294838206464]) rfl (by rw [e]; exact Nat.le_of_ble_eq_true rfl) (by rw [e]; rfl) ?_
  unfold dk_111 at h
  refine wq_aload_n rfl rfl rfl ?_
  refine xm_getR (v := 36893488147419103289) (q := 56) rfl rfl (by decide) (by decide) (hT.r (k := 56) 0 56 rfl (by decide) rfl) ?_
  refine xm_getI (q := 57) rfl rfl (by decide) (by decide) ?_
  refine wq_iload_n rfl rfl ha0 ?_
  refine wq_ic_ne rfl rfl (hT.i (k := 57) 4 rfl (by decide) rfl) ha0 (fun h1 => ?_) (fun h1 => ?_)
  · replace h := od_neg h h1
    refine wq_iconst rfl rfl ?_
    refine wq_istore_n rfl (wm_zlt (by decide)) (Nat.le_of_ble_eq_true rfl) (Or.inr ⟨_, rfl, (wq_notL ha0)⟩) (L' := [36893488147419103288, a0, 0]) rfl ?_
    refine wq_iload_n rfl rfl (wm_zlt (by decide)) ?_
    refine wq_if_eq rfl rfl (wm_zlt (by decide)) (fun h2 => ?_) (fun h2 => ?_)
    · replace h := od_pos h h2
      refine wq_iload_n rfl rfl (wm_zlt (by decide)) ?_
      exact wq_iret rfl (wm_zlt (by decide)) (Nat.blt_eq.mpr (by decide)) (wkOZ h hT (by decide))
    · replace h := od_neg h h2
      refine wq_aload_n rfl rfl rfl ?_
      obtain ⟨y3, e4, h⟩ := od_bindE h
      refine wd_virtN (q := 56) (y := y3) (as := [36893488147419103288]) rfl rfl rfl (by decide) (Nat.le_of_ble_eq_true rfl) (Nat.le_of_ble_eq_true rfl) rfl (Nat.le_of_ble_eq_true rfl) rfl (dkT_77 hT e4) (fun T6 => ?_)
      refine wq_iload_n rfl rfl (wm_zlt (by decide)) ?_
      exact wq_iret rfl (wm_zlt (by decide)) (Nat.blt_eq.mpr (by decide)) (wkOZ h T6 (by decide))
  · replace h := od_pos h h1
    refine wq_iconst rfl rfl ?_
    refine wq_goto rfl rfl ?_
    refine wq_istore_n rfl (wm_zlt (by decide)) (Nat.le_of_ble_eq_true rfl) (Or.inr ⟨_, rfl, (wq_notL ha0)⟩) (L' := [36893488147419103288, a0, 1]) rfl ?_
    refine wq_iload_n rfl rfl (wm_zlt (by decide)) ?_
    refine wq_if_eq rfl rfl (wm_zlt (by decide)) (fun h7 => ?_) (fun h7 => ?_)
    · replace h := od_pos h h7
      refine wq_iload_n rfl rfl (wm_zlt (by decide)) ?_
      exact wq_iret rfl (wm_zlt (by decide)) (Nat.blt_eq.mpr (by decide)) (wkOZ h hT (by decide))
    · replace h := od_neg h h7
      refine wq_aload_n rfl rfl rfl ?_
      obtain ⟨y8, e9, h⟩ := od_bindE h
      refine wd_virtN (q := 56) (y := y8) (as := [36893488147419103288]) rfl rfl rfl (by decide) (Nat.le_of_ble_eq_true rfl) (Nat.le_of_ble_eq_true rfl) rfl (Nat.le_of_ble_eq_true rfl) rfl (dkT_77 hT e9) (fun T11 => ?_)
      refine wq_iload_n rfl rfl (wm_zlt (by decide)) ?_
      exact wq_iret rfl (wm_zlt (by decide)) (Nat.blt_eq.mpr (by decide)) (wkOZ h T11 (by decide))
/-- X7_height -/
def dk_84 (F : wq_F) : Option (Nat × wq_F) :=
  od_g (F 59 8 < 24) <|
  some (F 64 (F 59 8), F)
theorem dkT_84 {d : Nat} {F : wq_F} (hT : xm_T F) {x : Nat × wq_F} (h : dk_84 F = some x) : mq (d + 0 + 1) 84 [36893488147419103291] xm_sh F (wkI xm_T xm_sh x) := by
  have e : ev_ent [36893488147419103291] = [36893488147419103291] := by
    rfl
  refine mq_of (maxL := 1) (rt := (some .int)) (code := (ev_un al_mX7_height.2.2.2.2)) (L := [36893488147419103291]) rfl (by rw [e]; exact Nat.le_of_ble_eq_true rfl) (by rw [e]; rfl) ?_
  unfold dk_84 at h
  refine wq_aload_n rfl rfl rfl ?_
  refine xm_getR (v := 36893488147419103296) (q := 59) rfl rfl (by decide) (by decide) (hT.r (k := 59) 6 63 rfl (by decide) rfl) ?_
  refine wq_aload_n rfl rfl rfl ?_
  refine xm_getI (q := 59) rfl rfl (by decide) (by decide) ?_
  obtain ⟨g1, h⟩ := od_gE h
  refine wq_iaload (q := 64) (n := 24) rfl rfl (by decide) g1 (by decide) ?_
  exact wq_iret rfl (hT.ai (k := 64) rfl g1) rfl (wkOI h hT (hT.ai (k := 64) rfl g1))
/-- X7_close -/
def dk_168 (F : wq_F) (a0 : Nat) : Option (Nat × wq_F) :=
  od_up F 59 3 a0 fun F1 =>
  some (0, F1)
theorem dkT_168 {d : Nat} {F : wq_F} (hT : xm_T F) {a0 : Nat} (ha0 : a0 < 4294967296) {x : Nat × wq_F} (h : dk_168 F a0 = some x) : mq (d + 0 + 1) 168 [36893488147419103291, a0] xm_sh F (wkN xm_T xm_sh x) := by
  have e : ev_ent [36893488147419103291, a0] = [36893488147419103291, a0] := by
    show 36893488147419103291 :: ev_ent [a0] = _
    rw [wm_entI ha0]
    rfl
  refine mq_of (maxL := 2) (rt := none) (code := (ev_un al_mX7_close.2.2.2.2)) (L := [36893488147419103291, a0]) rfl (by rw [e]; exact Nat.le_of_ble_eq_true rfl) (by rw [e]; rfl) ?_
  unfold dk_168 at h
  refine wq_aload_n rfl rfl rfl ?_
  refine wq_iload_n rfl rfl ha0 ?_
  obtain ⟨F1, e2, h⟩ := od_upE h
  refine xmE_put (q := 59) rfl rfl (by decide) (by decide) (wq_I ha0) e2 ?_
  have T3 : xm_T F1 := wd_T e2 (hT.uf (k := 59) (f := 3) (c := 0) (v := a0) rfl (by decide) rfl (show a0 < 4294967296 from ha0))
  exact wq_ret rfl (wkON h T3)
/-- X7_setHeight -/
def dk_162 (F : wq_F) (a0 : Nat) : Option (Nat × wq_F) :=
  od_g (F 59 8 < 24) <|
  od_up F 64 (F 59 8) a0 fun F2 =>
  some (0, F2)
theorem dkT_162 {d : Nat} {F : wq_F} (hT : xm_T F) {a0 : Nat} (ha0 : a0 < 4294967296) {x : Nat × wq_F} (h : dk_162 F a0 = some x) : mq (d + 0 + 1) 162 [36893488147419103291, a0] xm_sh F (wkN xm_T xm_sh x) := by
  have e : ev_ent [36893488147419103291, a0] = [36893488147419103291, a0] := by
    show 36893488147419103291 :: ev_ent [a0] = _
    rw [wm_entI ha0]
    rfl
  refine mq_of (maxL := 2) (rt := none) (code := (ev_un al_mX7_setHeight.2.2.2.2)) (L := [36893488147419103291, a0]) rfl (by rw [e]; exact Nat.le_of_ble_eq_true rfl) (by rw [e]; rfl) ?_
  unfold dk_162 at h
  refine wq_aload_n rfl rfl rfl ?_
  refine xm_getR (v := 36893488147419103296) (q := 59) rfl rfl (by decide) (by decide) (hT.r (k := 59) 6 63 rfl (by decide) rfl) ?_
  refine wq_aload_n rfl rfl rfl ?_
  refine xm_getI (q := 59) rfl rfl (by decide) (by decide) ?_
  refine wq_iload_n rfl rfl ha0 ?_
  obtain ⟨g1, h⟩ := od_gE h
  obtain ⟨F2, e3, h⟩ := od_upE h
  refine wd_iastore (q := 64) (n := 24) rfl rfl (by decide) g1 (by decide) ha0 e3 ?_
  have T4 : xm_T F2 := wd_T e3 (hT.ua (k := 64) (kd := 1000) (n := 24) (i := F 59 8) (v := a0) rfl (by decide) g1 (show a0 < 4294967296 from ha0))
  exact wq_ret rfl (wkON h T4)
/-- X4_cut -/
def dk_113 (F : wq_F) (a0 : Nat) : Option (Nat × wq_F) :=
  (dk_78 F 27 a0 0 0).bind fun y1 =>
  (dk_162 y1.2 a0).bind fun y5 =>
  some (0, y5.2)
theorem dkT_113 {d : Nat} {F : wq_F} (hT : xm_T F) {a0 : Nat} (ha0 : a0 < 4294967296) {x : Nat × wq_F} (h : dk_113 F a0 = some x) : mq (d + 2 + 1) 113 [36893488147419103288, a0] xm_sh F (wkN xm_T xm_sh x) := by
  have e : ev_ent [36893488147419103288, a0] = [36893488147419103288, a0] := by
    show 36893488147419103288 :: ev_ent [a0] = _
    rw [wm_entI ha0]
    rfl
  refine mq_of (maxL := 2) (rt := none) (code := (ev_un al_mX4_cut.2.2.2.2)) (L := [36893488147419103288, a0]) rfl (by rw [e]; exact Nat.le_of_ble_eq_true rfl) (by rw [e]; rfl) ?_
  unfold dk_113 at h
  refine wq_aload_n rfl rfl rfl ?_
  refine wq_bipush rfl rfl ?_
  refine wq_iload_n rfl rfl ha0 ?_
  refine wq_iconst rfl rfl ?_
  refine wq_iconst rfl rfl ?_
  obtain ⟨y1, e2, h⟩ := od_bindE h
  refine wd_virtI (q := 56) (y := y1) (as := [36893488147419103288, 27, a0, 0, 0]) rfl rfl rfl (by decide) (Nat.le_of_ble_eq_true rfl) (Nat.le_of_ble_eq_true rfl) rfl (Nat.le_of_ble_eq_true rfl) rfl (dkT_78 hT (by decide) ha0 (wm_zlt (by decide)) (wm_zlt (by decide)) e2) (fun p3 T4 => ?_)
  refine wq_pop rfl (wq_notL p3) ?_
  refine wq_aload_n rfl rfl rfl ?_
  refine xm_getR (v := 36893488147419103291) (q := 56) rfl rfl (by decide) (by decide) (T4.r (k := 56) 3 58 rfl (by decide) rfl) ?_
  refine wq_iload_n rfl rfl ha0 ?_
  obtain ⟨y5, e6, h⟩ := od_bindE h
  refine wd_virtN (q := 59) (y := y5) (as := [36893488147419103291, a0]) rfl rfl rfl (by decide) (Nat.le_of_ble_eq_true rfl) (Nat.le_of_ble_eq_true rfl) rfl (Nat.le_of_ble_eq_true rfl) rfl (dkT_162 T4 ha0 e6) (fun T8 => ?_)
  exact wq_ret rfl (wkON h T8)
/-- X4_expect -/
def dk_110 (n : Nat) (F : wq_F) (a0 : Nat) : Option (Nat × wq_F) :=
  if (F 57 4) = a0 then
    (dk_77 n F).bind fun y6 =>
    some (0, y6.2)
  else
    (dk_109 F 2).bind fun y2 =>
    some (0, y2.2)
theorem dkT_110 {d n : Nat} {F : wq_F} (hT : xm_T F) {a0 : Nat} (ha0 : a0 < 4294967296) {x : Nat × wq_F} (h : dk_110 n F a0 = some x) : mq (d + 6 + 1) 110 [36893488147419103288, a0] xm_sh F (wkN xm_T xm_sh x) := by
  have e : ev_ent [36893488147419103288, a0] = [36893488147419103288, a0] := by
    show 36893488147419103288 :: ev_ent [a0] = _
    rw [wm_entI ha0]
    rfl
  refine mq_of (maxL := 2) (rt := none) (code := (ev_un al_mX4_expect.2.2.2.2)) (L := [36893488147419103288, a0]) rfl (by rw [e]; exact Nat.le_of_ble_eq_true rfl) (by rw [e]; rfl) ?_
  unfold dk_110 at h
  refine wq_aload_n rfl rfl rfl ?_
  refine xm_getR (v := 36893488147419103289) (q := 56) rfl rfl (by decide) (by decide) (hT.r (k := 56) 0 56 rfl (by decide) rfl) ?_
  refine xm_getI (q := 57) rfl rfl (by decide) (by decide) ?_
  refine wq_iload_n rfl rfl ha0 ?_
  refine wq_ic_ne rfl rfl (hT.i (k := 57) 4 rfl (by decide) rfl) ha0 (fun h1 => ?_) (fun h1 => ?_)
  · replace h := od_neg h h1
    refine wq_aload_n rfl rfl rfl ?_
    refine wq_iconst rfl rfl ?_
    obtain ⟨y2, e3, h⟩ := od_bindE h
    refine wd_virtN (q := 56) (y := y2) (as := [36893488147419103288, 2]) rfl rfl rfl (by decide) (Nat.le_of_ble_eq_true rfl) (Nat.le_of_ble_eq_true rfl) rfl (Nat.le_of_ble_eq_true rfl) rfl (dkT_109 hT (by decide) e3) (fun T5 => ?_)
    exact wq_ret rfl (wkON h T5)
  · replace h := od_pos h h1
    refine wq_aload_n rfl rfl rfl ?_
    obtain ⟨y6, e7, h⟩ := od_bindE h
    refine wd_virtN (q := 56) (y := y6) (as := [36893488147419103288]) rfl rfl rfl (by decide) (Nat.le_of_ble_eq_true rfl) (Nat.le_of_ble_eq_true rfl) rfl (Nat.le_of_ble_eq_true rfl) rfl (dkT_77 hT e7) (fun T9 => ?_)
    refine wq_goto rfl rfl ?_
    exact wq_ret rfl (wkON h T9)
/-- X7_breaks -/
def dk_164 (F : wq_F) : Option (Nat × wq_F) :=
  od_g (F 59 8 < 24) <|
  some (F 65 (F 59 8), F)
theorem dkT_164 {d : Nat} {F : wq_F} (hT : xm_T F) {x : Nat × wq_F} (h : dk_164 F = some x) : mq (d + 0 + 1) 164 [36893488147419103291] xm_sh F (wkI xm_T xm_sh x) := by
  have e : ev_ent [36893488147419103291] = [36893488147419103291] := by
    rfl
  refine mq_of (maxL := 1) (rt := (some .int)) (code := (ev_un al_mX7_breaks.2.2.2.2)) (L := [36893488147419103291]) rfl (by rw [e]; exact Nat.le_of_ble_eq_true rfl) (by rw [e]; rfl) ?_
  unfold dk_164 at h
  refine wq_aload_n rfl rfl rfl ?_
  refine xm_getR (v := 36893488147419103297) (q := 59) rfl rfl (by decide) (by decide) (hT.r (k := 59) 7 64 rfl (by decide) rfl) ?_
  refine wq_aload_n rfl rfl rfl ?_
  refine xm_getI (q := 59) rfl rfl (by decide) (by decide) ?_
  obtain ⟨g1, h⟩ := od_gE h
  refine wq_iaload (q := 65) (n := 24) rfl rfl (by decide) g1 (by decide) ?_
  exact wq_iret rfl (hT.ai (k := 65) rfl g1) rfl (wkOI h hT (hT.ai (k := 65) rfl g1))
/-- X4_unary -/
def dk_146 (F : wq_F) : Option (Nat × wq_F) :=
  od_let (F 57 4) fun y1 =>
  if y1 = 23 then
    some (25, F)
  else if y1 = 41 then
    some (50, F)
  else if y1 = 46 then
    some (51, F)
  else if y1 = 50 then
    some (53, F)
  else 
  some (4294967295, F)
theorem dkT_146 {d : Nat} {F : wq_F} (hT : xm_T F) {x : Nat × wq_F} (h : dk_146 F = some x) : mq (d + 0 + 1) 146 [36893488147419103288] xm_sh F (wkI xm_T xm_sh x) := by
  have e : ev_ent [36893488147419103288] = [36893488147419103288] := by
    rfl
  refine mq_of (maxL := 1) (rt := (some .int)) (code := (ev_un al_mX4_unary.2.2.2.2)) (L := [36893488147419103288]) rfl (by rw [e]; exact Nat.le_of_ble_eq_true rfl) (by rw [e]; rfl) ?_
  unfold dk_146 at h
  refine wq_aload_n rfl rfl rfl ?_
  refine xm_getR (v := 36893488147419103289) (q := 56) rfl rfl (by decide) (by decide) (hT.r (k := 56) 0 56 rfl (by decide) rfl) ?_
  refine xm_getI (q := 57) rfl rfl (by decide) (by decide) ?_
  obtain ⟨y1, e2, h⟩ := od_letE h
  refine wq_top e2.symm ?_
  have p3 : y1 < 4294967296 := wd_lt e2 (hT.i (k := 57) 4 rfl (by decide) rfl)
  by_cases h4 : y1 = 23
  case pos =>
    replace h := od_pos h h4
    refine wq_top h4 ?_
    refine wq_lsw rfl (by decide) rfl (tgt := 48) rfl ?_
    refine wq_bipush rfl rfl ?_
    exact wq_iret rfl (by decide) rfl (wkOI h hT (by decide))
  replace h := od_neg h h4
  by_cases h5 : y1 = 41
  case pos =>
    replace h := od_pos h h5
    refine wq_top h5 ?_
    refine wq_lsw rfl (by decide) rfl (tgt := 54) rfl ?_
    refine wq_bipush rfl rfl ?_
    exact wq_iret rfl (by decide) rfl (wkOI h hT (by decide))
  replace h := od_neg h h5
  by_cases h6 : y1 = 46
  case pos =>
    replace h := od_pos h h6
    refine wq_top h6 ?_
    refine wq_lsw rfl (by decide) rfl (tgt := 57) rfl ?_
    refine wq_bipush rfl rfl ?_
    exact wq_iret rfl (by decide) rfl (wkOI h hT (by decide))
  replace h := od_neg h h6
  by_cases h7 : y1 = 50
  case pos =>
    replace h := od_pos h h7
    refine wq_top h7 ?_
    refine wq_lsw rfl (by decide) rfl (tgt := 51) rfl ?_
    refine wq_bipush rfl rfl ?_
    exact wq_iret rfl (by decide) rfl (wkOI h hT (by decide))
  replace h := od_neg h h7
  refine wq_lswD rfl p3 rfl (List.forall_mem_cons.mpr ⟨wq_siNe (v := 23) p3 (by decide) h4, (List.forall_mem_cons.mpr ⟨wq_siNe (v := 41) p3 (by decide) h5, (List.forall_mem_cons.mpr ⟨wq_siNe (v := 46) p3 (by decide) h6, (List.forall_mem_cons.mpr ⟨wq_siNe (v := 50) p3 (by decide) h7, (fun _ h => absurd h List.not_mem_nil)⟩)⟩)⟩)⟩) rfl (tgt := 60) rfl ?_
  refine wq_iconst rfl rfl ?_
  exact wq_iret rfl (by decide) rfl (wkOI h hT (by decide))
/-- X4_startsExpression -/
def dk_114 (F : wq_F) : Option (Nat × wq_F) :=
  od_let (F 57 4) fun y1 =>
  if y1 = 2 then
    some (1, F)
  else if y1 = 3 then
    some (1, F)
  else if y1 = 4 then
    some (1, F)
  else if y1 = 16 then
    some (1, F)
  else if y1 = 18 then
    some (1, F)
  else if y1 = 22 then
    some (1, F)
  else if y1 = 28 then
    some (1, F)
  else if y1 = 51 then
    some (1, F)
  else if y1 = 53 then
    some (1, F)
  else if y1 = 65 then
    some (1, F)
  else 
  (dk_146 F).bind fun y14 =>
  if y14.1 = 4294967295 then
    some (0, y14.2)
  else
    some (1, y14.2)
theorem dkT_114 {d : Nat} {F : wq_F} (hT : xm_T F) {x : Nat × wq_F} (h : dk_114 F = some x) : mq (d + 1 + 1) 114 [36893488147419103288] xm_sh F (wkZ xm_T xm_sh x) := by
  have e : ev_ent [36893488147419103288] = [36893488147419103288] := by
    rfl
  refine mq_of (maxL := 1) (rt := (some .boolean)) (code := (ev_un al_mX4_startsExpression.2.2.2.2)) (L := [36893488147419103288]) rfl (by rw [e]; exact Nat.le_of_ble_eq_true rfl) (by rw [e]; rfl) ?_
  unfold dk_114 at h
  refine wq_aload_n rfl rfl rfl ?_
  refine xm_getR (v := 36893488147419103289) (q := 56) rfl rfl (by decide) (by decide) (hT.r (k := 56) 0 56 rfl (by decide) rfl) ?_
  refine xm_getI (q := 57) rfl rfl (by decide) (by decide) ?_
  obtain ⟨y1, e2, h⟩ := od_letE h
  refine wq_top e2.symm ?_
  have p3 : y1 < 4294967296 := wd_lt e2 (hT.i (k := 57) 4 rfl (by decide) rfl)
  by_cases h4 : y1 = 2
  case pos =>
    replace h := od_pos h h4
    refine wq_top h4 ?_
    refine wq_lsw rfl (by decide) rfl (tgt := 96) rfl ?_
    refine wq_iconst rfl rfl ?_
    exact wq_iret rfl (wm_zlt (by decide)) (Nat.blt_eq.mpr (by decide)) (wkOZ h hT (by decide))
  replace h := od_neg h h4
  by_cases h5 : y1 = 3
  case pos =>
    replace h := od_pos h h5
    refine wq_top h5 ?_
    refine wq_lsw rfl (by decide) rfl (tgt := 96) rfl ?_
    refine wq_iconst rfl rfl ?_
    exact wq_iret rfl (wm_zlt (by decide)) (Nat.blt_eq.mpr (by decide)) (wkOZ h hT (by decide))
  replace h := od_neg h h5
  by_cases h6 : y1 = 4
  case pos =>
    replace h := od_pos h h6
    refine wq_top h6 ?_
    refine wq_lsw rfl (by decide) rfl (tgt := 96) rfl ?_
    refine wq_iconst rfl rfl ?_
    exact wq_iret rfl (wm_zlt (by decide)) (Nat.blt_eq.mpr (by decide)) (wkOZ h hT (by decide))
  replace h := od_neg h h6
  by_cases h7 : y1 = 16
  case pos =>
    replace h := od_pos h h7
    refine wq_top h7 ?_
    refine wq_lsw rfl (by decide) rfl (tgt := 96) rfl ?_
    refine wq_iconst rfl rfl ?_
    exact wq_iret rfl (wm_zlt (by decide)) (Nat.blt_eq.mpr (by decide)) (wkOZ h hT (by decide))
  replace h := od_neg h h7
  by_cases h8 : y1 = 18
  case pos =>
    replace h := od_pos h h8
    refine wq_top h8 ?_
    refine wq_lsw rfl (by decide) rfl (tgt := 96) rfl ?_
    refine wq_iconst rfl rfl ?_
    exact wq_iret rfl (wm_zlt (by decide)) (Nat.blt_eq.mpr (by decide)) (wkOZ h hT (by decide))
  replace h := od_neg h h8
  by_cases h9 : y1 = 22
  case pos =>
    replace h := od_pos h h9
    refine wq_top h9 ?_
    refine wq_lsw rfl (by decide) rfl (tgt := 96) rfl ?_
    refine wq_iconst rfl rfl ?_
    exact wq_iret rfl (wm_zlt (by decide)) (Nat.blt_eq.mpr (by decide)) (wkOZ h hT (by decide))
  replace h := od_neg h h9
  by_cases h10 : y1 = 28
  case pos =>
    replace h := od_pos h h10
    refine wq_top h10 ?_
    refine wq_lsw rfl (by decide) rfl (tgt := 96) rfl ?_
    refine wq_iconst rfl rfl ?_
    exact wq_iret rfl (wm_zlt (by decide)) (Nat.blt_eq.mpr (by decide)) (wkOZ h hT (by decide))
  replace h := od_neg h h10
  by_cases h11 : y1 = 51
  case pos =>
    replace h := od_pos h h11
    refine wq_top h11 ?_
    refine wq_lsw rfl (by decide) rfl (tgt := 96) rfl ?_
    refine wq_iconst rfl rfl ?_
    exact wq_iret rfl (wm_zlt (by decide)) (Nat.blt_eq.mpr (by decide)) (wkOZ h hT (by decide))
  replace h := od_neg h h11
  by_cases h12 : y1 = 53
  case pos =>
    replace h := od_pos h h12
    refine wq_top h12 ?_
    refine wq_lsw rfl (by decide) rfl (tgt := 96) rfl ?_
    refine wq_iconst rfl rfl ?_
    exact wq_iret rfl (wm_zlt (by decide)) (Nat.blt_eq.mpr (by decide)) (wkOZ h hT (by decide))
  replace h := od_neg h h12
  by_cases h13 : y1 = 65
  case pos =>
    replace h := od_pos h h13
    refine wq_top h13 ?_
    refine wq_lsw rfl (by decide) rfl (tgt := 96) rfl ?_
    refine wq_iconst rfl rfl ?_
    exact wq_iret rfl (wm_zlt (by decide)) (Nat.blt_eq.mpr (by decide)) (wkOZ h hT (by decide))
  replace h := od_neg h h13
  refine wq_lswD rfl p3 rfl (List.forall_mem_cons.mpr ⟨wq_siNe (v := 2) p3 (by decide) h4, (List.forall_mem_cons.mpr ⟨wq_siNe (v := 3) p3 (by decide) h5, (List.forall_mem_cons.mpr ⟨wq_siNe (v := 4) p3 (by decide) h6, (List.forall_mem_cons.mpr ⟨wq_siNe (v := 16) p3 (by decide) h7, (List.forall_mem_cons.mpr ⟨wq_siNe (v := 18) p3 (by decide) h8, (List.forall_mem_cons.mpr ⟨wq_siNe (v := 22) p3 (by decide) h9, (List.forall_mem_cons.mpr ⟨wq_siNe (v := 28) p3 (by decide) h10, (List.forall_mem_cons.mpr ⟨wq_siNe (v := 51) p3 (by decide) h11, (List.forall_mem_cons.mpr ⟨wq_siNe (v := 53) p3 (by decide) h12, (List.forall_mem_cons.mpr ⟨wq_siNe (v := 65) p3 (by decide) h13, (fun _ h => absurd h List.not_mem_nil)⟩)⟩)⟩)⟩)⟩)⟩)⟩)⟩)⟩)⟩) rfl (tgt := 98) rfl ?_
  refine wq_aload_n rfl rfl rfl ?_
  obtain ⟨y14, e15, h⟩ := od_bindE h
  refine wd_virtI (q := 56) (y := y14) (as := [36893488147419103288]) rfl rfl rfl (by decide) (Nat.le_of_ble_eq_true rfl) (Nat.le_of_ble_eq_true rfl) rfl (Nat.le_of_ble_eq_true rfl) rfl (dkT_146 hT e15) (fun p16 T17 => ?_)
  refine wq_iconst rfl rfl ?_
  refine wq_ic_eq rfl rfl p16 (by decide) (fun h18 => ?_) (fun h18 => ?_)
  · replace h := od_pos h h18
    refine wq_iconst rfl rfl ?_
    exact wq_iret rfl (wm_zlt (by decide)) (Nat.blt_eq.mpr (by decide)) (wkOZ h T17 (by decide))
  · replace h := od_neg h h18
    refine wq_iconst rfl rfl ?_
    refine wq_goto rfl rfl ?_
    exact wq_iret rfl (wm_zlt (by decide)) (Nat.blt_eq.mpr (by decide)) (wkOZ h T17 (by decide))
/-- X7_rise -/
def dk_163 (F : wq_F) (a0 : Nat) : Option (Nat × wq_F) :=
  od_g (F 59 8 < 24) <|
  od_let (((F 64 (F 59 8)) + a0) % 4294967296) fun y2 =>
  od_g (F 59 8 < 24) <|
  od_up F 64 (F 59 8) y2 fun F6 =>
  some (0, F6)
theorem dkT_163 {d : Nat} {F : wq_F} (hT : xm_T F) {a0 : Nat} (ha0 : a0 < 4294967296) {x : Nat × wq_F} (h : dk_163 F a0 = some x) : mq (d + 0 + 1) 163 [36893488147419103291, a0] xm_sh F (wkN xm_T xm_sh x) := by
  have e : ev_ent [36893488147419103291, a0] = [36893488147419103291, a0] := by
    show 36893488147419103291 :: ev_ent [a0] = _
    rw [wm_entI ha0]
    rfl
  refine mq_of (maxL := 2) (rt := none) (code := (ev_un al_mX7_rise.2.2.2.2)) (L := [36893488147419103291, a0]) rfl (by rw [e]; exact Nat.le_of_ble_eq_true rfl) (by rw [e]; rfl) ?_
  unfold dk_163 at h
  refine wq_aload_n rfl rfl rfl ?_
  refine xm_getR (v := 36893488147419103296) (q := 59) rfl rfl (by decide) (by decide) (hT.r (k := 59) 6 63 rfl (by decide) rfl) ?_
  refine wq_aload_n rfl rfl rfl ?_
  refine xm_getI (q := 59) rfl rfl (by decide) (by decide) ?_
  refine wq_dup2 rfl (wq_notL (hT.i (k := 59) 8 rfl (by decide) rfl)) rfl ?_
  obtain ⟨g1, h⟩ := od_gE h
  refine wq_iaload (q := 64) (n := 24) rfl rfl (by decide) g1 (by decide) ?_
  refine wq_iload_n rfl rfl ha0 ?_
  refine wq_iaddZ rfl (hT.ai (k := 64) rfl g1) ha0 (z := ((F 64 (F 59 8)) + a0) % 4294967296) rfl ?_
  obtain ⟨y2, e3, h⟩ := od_letE h
  refine wq_top e3.symm ?_
  have p4 : y2 < 4294967296 := wd_lt e3 (Nat.mod_lt _ (by decide))
  obtain ⟨g5, h⟩ := od_gE h
  obtain ⟨F6, e7, h⟩ := od_upE h
  refine wd_iastore (q := 64) (n := 24) rfl rfl (by decide) g5 (by decide) p4 e7 ?_
  have T8 : xm_T F6 := wd_T e7 (hT.ua (k := 64) (kd := 1000) (n := 24) (i := F 59 8) (v := y2) rfl (by decide) g5 (show y2 < 4294967296 from p4))
  exact wq_ret rfl (wkON h T8)
/-- X4_push -/
def dk_112 (F : wq_F) (a0 : Nat) (a1 : Nat) (a2 : Nat) (a3 : Nat) : Option (Nat × wq_F) :=
  (dk_78 F a0 a1 0 a2).bind fun y1 =>
  (dk_163 y1.2 a3).bind fun y5 =>
  some (0, y5.2)
theorem dkT_112 {d : Nat} {F : wq_F} (hT : xm_T F) {a0 : Nat} (ha0 : a0 < 4294967296) {a1 : Nat} (ha1 : a1 < 4294967296) {a2 : Nat} (ha2 : a2 < 4294967296) {a3 : Nat} (ha3 : a3 < 4294967296) {x : Nat × wq_F} (h : dk_112 F a0 a1 a2 a3 = some x) : mq (d + 2 + 1) 112 [36893488147419103288, a0, a1, a2, a3] xm_sh F (wkN xm_T xm_sh x) := by
  have e : ev_ent [36893488147419103288, a0, a1, a2, a3] = [36893488147419103288, a0, a1, a2, a3] := by
    show 36893488147419103288 :: ev_ent [a0, a1, a2, a3] = _
    rw [wm_entI ha0, wm_entI ha1, wm_entI ha2, wm_entI ha3]
    rfl
  refine mq_of (maxL := 5) (rt := none) (code := (ev_un al_mX4_push.2.2.2.2)) (L := [36893488147419103288, a0, a1, a2, a3]) rfl (by rw [e]; exact Nat.le_of_ble_eq_true rfl) (by rw [e]; rfl) ?_
  unfold dk_112 at h
  refine wq_aload_n rfl rfl rfl ?_
  refine wq_iload_n rfl rfl ha0 ?_
  refine wq_iload_n rfl rfl ha1 ?_
  refine wq_iconst rfl rfl ?_
  refine wq_iload_n rfl rfl ha2 ?_
  obtain ⟨y1, e2, h⟩ := od_bindE h
  refine wd_virtI (q := 56) (y := y1) (as := [36893488147419103288, a0, a1, 0, a2]) rfl rfl rfl (by decide) (Nat.le_of_ble_eq_true rfl) (Nat.le_of_ble_eq_true rfl) rfl (Nat.le_of_ble_eq_true rfl) rfl (dkT_78 hT ha0 ha1 (wm_zlt (by decide)) ha2 e2) (fun p3 T4 => ?_)
  refine wq_pop rfl (wq_notL p3) ?_
  refine wq_aload_n rfl rfl rfl ?_
  refine xm_getR (v := 36893488147419103291) (q := 56) rfl rfl (by decide) (by decide) (T4.r (k := 56) 3 58 rfl (by decide) rfl) ?_
  refine wq_iload rfl rfl ha3 ?_
  obtain ⟨y5, e6, h⟩ := od_bindE h
  refine wd_virtN (q := 59) (y := y5) (as := [36893488147419103291, a3]) rfl rfl rfl (by decide) (Nat.le_of_ble_eq_true rfl) (Nat.le_of_ble_eq_true rfl) rfl (Nat.le_of_ble_eq_true rfl) rfl (dkT_163 T4 ha3 e6) (fun T8 => ?_)
  exact wq_ret rfl (wkON h T8)
/-- X6_addWhole -/
def dk_157 (F : wq_F) (a0 : Nat) : Option (Nat × wq_F) :=
  if ev_s (F 11 6) < ev_s 10000 then
    od_g (F 11 6 < 10000) <|
    od_up F 16 (F 11 6) ((a0 - 18446744073709551616)) fun F3 =>
    od_up F3 11 6 (((F3 11 6) + 1) % 4294967296) fun F6 =>
    od_let (((F6 11 6) + (4294967296 - 1)) % 4294967296) fun y9 =>
    some (y9, F6)
  else
    some (0, F)
theorem dkT_157 {d : Nat} {F : wq_F} (hT : xm_T F) {a0 : Nat} (ha0 : ev_isL a0 = true) {x : Nat × wq_F} (h : dk_157 F a0 = some x) : mq (d + 0 + 1) 157 [36893488147419103243, a0] xm_sh F (wkI xm_T xm_sh x) := by
  have e : ev_ent [36893488147419103243, a0] = [36893488147419103243, a0, 73786976294838206464] := by
    show 36893488147419103243 :: ev_ent [a0] = _
    rw [wd_entL ha0]
    rfl
  refine mq_of (maxL := 3) (rt := (some .int)) (code := (ev_un al_mX6_addWhole.2.2.2.2)) (L := [36893488147419103243, a0, 73786976294838206464]) rfl (by rw [e]; exact Nat.le_of_ble_eq_true rfl) (by rw [e]; rfl) ?_
  unfold dk_157 at h
  refine wq_aload_n rfl rfl rfl ?_
  refine xm_getI (q := 11) rfl rfl (by decide) (by decide) ?_
  refine wq_sipush rfl rfl ?_
  refine wq_ic_lt rfl rfl (hT.i (k := 11) 6 rfl (by decide) rfl) (by decide) (fun h1 => ?_) (fun h1 => ?_)
  · replace h := od_pos h h1
    refine wq_aload_n rfl rfl rfl ?_
    refine xm_getR (v := 36893488147419103248) (q := 11) rfl rfl (by decide) (by decide) (hT.r (k := 11) 5 15 rfl (by decide) rfl) ?_
    refine wq_aload_n rfl rfl rfl ?_
    refine xm_getI (q := 11) rfl rfl (by decide) (by decide) ?_
    refine wq_lload_n rfl rfl ha0 ?_
    obtain ⟨g2, h⟩ := od_gE h
    obtain ⟨F3, e4, h⟩ := od_upE h
    refine wd_lastore (q := 16) (n := 10000) rfl rfl (by decide) g2 (by decide) ha0 e4 ?_
    have T5 : xm_T F3 := wd_T e4 (hT.ua (k := 16) (kd := 1010) (n := 10000) (i := F 11 6) (v := (a0 - 18446744073709551616)) rfl (by decide) g2 (wm_subL ha0))
    refine wq_aload_n rfl rfl rfl ?_
    refine wq_dup rfl rfl ?_
    refine xm_getI (q := 11) rfl rfl (by decide) (by decide) ?_
    refine wq_iconst rfl rfl ?_
    refine wq_iaddZ rfl (T5.i (k := 11) 6 rfl (by decide) rfl) (wm_zlt (by decide)) (z := ((F3 11 6) + 1) % 4294967296) rfl ?_
    obtain ⟨F6, e7, h⟩ := od_upE h
    refine xmE_put (q := 11) rfl rfl (by decide) (by decide) (wq_I (Nat.mod_lt _ (by decide))) e7 ?_
    have T8 : xm_T F6 := wd_T e7 (T5.uf (k := 11) (f := 6) (c := 0) (v := ((F3 11 6) + 1) % 4294967296) rfl (by decide) rfl (show ((F3 11 6) + 1) % 4294967296 < 4294967296 from (Nat.mod_lt _ (by decide))))
    refine wq_aload_n rfl rfl rfl ?_
    refine xm_getI (q := 11) rfl rfl (by decide) (by decide) ?_
    refine wq_iconst rfl rfl ?_
    refine wq_isubZ rfl (T8.i (k := 11) 6 rfl (by decide) rfl) (wm_zlt (by decide)) (z := ((F6 11 6) + (4294967296 - 1)) % 4294967296) rfl ?_
    obtain ⟨y9, e10, h⟩ := od_letE h
    refine wq_top e10.symm ?_
    have p11 : y9 < 4294967296 := wd_lt e10 (Nat.mod_lt _ (by decide))
    exact wq_iret rfl p11 rfl (wkOI h T8 p11)
  · replace h := od_neg h (Nat.not_lt.mpr h1)
    refine wq_iconst rfl rfl ?_
    exact wq_iret rfl (wm_zlt (by decide)) rfl (wkOI h hT (wm_zlt (by decide)))
/-- X7_current -/
def dk_161 (F : wq_F) : Option (Nat × wq_F) :=
  od_g (F 59 8 < 24) <|
  some (F 62 (F 59 8), F)
theorem dkT_161 {d : Nat} {F : wq_F} (hT : xm_T F) {x : Nat × wq_F} (h : dk_161 F = some x) : mq (d + 0 + 1) 161 [36893488147419103291] xm_sh F (wkI xm_T xm_sh x) := by
  have e : ev_ent [36893488147419103291] = [36893488147419103291] := by
    rfl
  refine mq_of (maxL := 1) (rt := (some .int)) (code := (ev_un al_mX7_current.2.2.2.2)) (L := [36893488147419103291]) rfl (by rw [e]; exact Nat.le_of_ble_eq_true rfl) (by rw [e]; rfl) ?_
  unfold dk_161 at h
  refine wq_aload_n rfl rfl rfl ?_
  refine xm_getR (v := 36893488147419103294) (q := 59) rfl rfl (by decide) (by decide) (hT.r (k := 59) 4 61 rfl (by decide) rfl) ?_
  refine wq_aload_n rfl rfl rfl ?_
  refine xm_getI (q := 59) rfl rfl (by decide) (by decide) ?_
  obtain ⟨g1, h⟩ := od_gE h
  refine wq_iaload (q := 62) (n := 24) rfl rfl (by decide) g1 (by decide) ?_
  exact wq_iret rfl (hT.ai (k := 62) rfl g1) rfl (wkOI h hT (hT.ai (k := 62) rfl g1))
/-- X7_hide -/
def dk_166 (F : wq_F) (a0 : Nat) : Option (Nat × wq_F) :=
  od_g (F 59 8 < 24) <|
  od_g (F 62 (F 59 8) < 50) <|
  if ev_s (F 19 (F 62 (F 59 8))) < ev_s 50 then
    if ev_s (F 59 3) < ev_s 1200 then
      od_g (F 62 (F 59 8) < 50) <|
      od_let (((F 19 (F 62 (F 59 8))) + 1) % 4294967296) fun y6 =>
      od_g (F 62 (F 59 8) < 50) <|
      od_up F 19 (F 62 (F 59 8)) y6 fun F10 =>
      od_g (F10 59 3 < 1200) <|
      od_up F10 60 (F10 59 3) a0 fun F14 =>
      od_g (F14 59 3 < 1200) <|
      od_up F14 61 (F14 59 3) 4294967295 fun F18 =>
      od_let (((F18 59 3) + 1) % 4294967296) fun y21 =>
      od_up F18 59 3 y21 fun F24 =>
      some (1, F24)
    else
      some (0, F)
  else
    some (0, F)
theorem dkT_166 {d : Nat} {F : wq_F} (hT : xm_T F) {a0 : Nat} (ha0 : a0 < 4294967296) {x : Nat × wq_F} (h : dk_166 F a0 = some x) : mq (d + 0 + 1) 166 [36893488147419103291, a0] xm_sh F (wkZ xm_T xm_sh x) := by
  have e : ev_ent [36893488147419103291, a0] = [36893488147419103291, a0] := by
    show 36893488147419103291 :: ev_ent [a0] = _
    rw [wm_entI ha0]
    rfl
  refine mq_of (maxL := 3) (rt := (some .boolean)) (code := (ev_un al_mX7_hide.2.2.2.2)) (L := [36893488147419103291, a0, 73786976294838206464]) rfl (by rw [e]; exact Nat.le_of_ble_eq_true rfl) (by rw [e]; rfl) ?_
  unfold dk_166 at h
  refine wq_aload_n rfl rfl rfl ?_
  refine xm_getR (v := 36893488147419103294) (q := 59) rfl rfl (by decide) (by decide) (hT.r (k := 59) 4 61 rfl (by decide) rfl) ?_
  refine wq_aload_n rfl rfl rfl ?_
  refine xm_getI (q := 59) rfl rfl (by decide) (by decide) ?_
  obtain ⟨g1, h⟩ := od_gE h
  refine wq_iaload (q := 62) (n := 24) rfl rfl (by decide) g1 (by decide) ?_
  refine wq_istore_n rfl (hT.ai (k := 62) rfl g1) (Nat.le_of_ble_eq_true rfl) (Or.inr ⟨_, rfl, (wq_notL ha0)⟩) (L' := [36893488147419103291, a0, F 62 (F 59 8)]) rfl ?_
  refine wq_aload_n rfl rfl rfl ?_
  refine xm_getR (v := 36893488147419103243) (q := 59) rfl rfl (by decide) (by decide) (hT.r (k := 59) 0 10 rfl (by decide) rfl) ?_
  refine xm_getR (v := 36893488147419103251) (q := 11) rfl rfl (by decide) (by decide) (hT.r (k := 11) 9 18 rfl (by decide) rfl) ?_
  refine wq_iload_n rfl rfl (hT.ai (k := 62) rfl g1) ?_
  obtain ⟨g2, h⟩ := od_gE h
  refine wq_iaload (q := 19) (n := 50) rfl rfl (by decide) g2 (by decide) ?_
  refine wq_bipush rfl rfl ?_
  refine wq_ic_ge rfl rfl (hT.ai (k := 19) rfl g2) (by decide) (fun h3 => ?_) (fun h3 => ?_)
  · replace h := od_neg h (Nat.not_lt.mpr h3)
    refine wq_iconst rfl rfl ?_
    exact wq_iret rfl (wm_zlt (by decide)) (Nat.blt_eq.mpr (by decide)) (wkOZ h hT (by decide))
  · replace h := od_pos h h3
    refine wq_aload_n rfl rfl rfl ?_
    refine xm_getI (q := 59) rfl rfl (by decide) (by decide) ?_
    refine wq_aload_n rfl rfl rfl ?_
    refine xm_getR (v := 36893488147419103292) (q := 59) rfl rfl (by decide) (by decide) (hT.r (k := 59) 1 59 rfl (by decide) rfl) ?_
    refine wq_alen (q := 60) rfl rfl (by decide) (by decide) (by decide) ?_
    refine wq_ic_lt rfl rfl (hT.i (k := 59) 3 rfl (by decide) rfl) (by decide) (fun h4 => ?_) (fun h4 => ?_)
    · replace h := od_pos h h4
      refine wq_aload_n rfl rfl rfl ?_
      refine xm_getR (v := 36893488147419103243) (q := 59) rfl rfl (by decide) (by decide) (hT.r (k := 59) 0 10 rfl (by decide) rfl) ?_
      refine xm_getR (v := 36893488147419103251) (q := 11) rfl rfl (by decide) (by decide) (hT.r (k := 11) 9 18 rfl (by decide) rfl) ?_
      refine wq_iload_n rfl rfl (hT.ai (k := 62) rfl g1) ?_
      refine wq_dup2 rfl (wq_notL (hT.ai (k := 62) rfl g1)) rfl ?_
      obtain ⟨g5, h⟩ := od_gE h
      refine wq_iaload (q := 19) (n := 50) rfl rfl (by decide) g5 (by decide) ?_
      refine wq_iconst rfl rfl ?_
      refine wq_iaddZ rfl (hT.ai (k := 19) rfl g5) (wm_zlt (by decide)) (z := ((F 19 (F 62 (F 59 8))) + 1) % 4294967296) rfl ?_
      obtain ⟨y6, e7, h⟩ := od_letE h
      refine wq_top e7.symm ?_
      have p8 : y6 < 4294967296 := wd_lt e7 (Nat.mod_lt _ (by decide))
      obtain ⟨g9, h⟩ := od_gE h
      obtain ⟨F10, e11, h⟩ := od_upE h
      refine wd_iastore (q := 19) (n := 50) rfl rfl (by decide) g9 (by decide) p8 e11 ?_
      have T12 : xm_T F10 := wd_T e11 (hT.ua (k := 19) (kd := 1000) (n := 50) (i := F 62 (F 59 8)) (v := y6) rfl (by decide) g9 (show y6 < 4294967296 from p8))
      refine wq_aload_n rfl rfl rfl ?_
      refine xm_getR (v := 36893488147419103292) (q := 59) rfl rfl (by decide) (by decide) (T12.r (k := 59) 1 59 rfl (by decide) rfl) ?_
      refine wq_aload_n rfl rfl rfl ?_
      refine xm_getI (q := 59) rfl rfl (by decide) (by decide) ?_
      refine wq_iload_n rfl rfl ha0 ?_
      obtain ⟨g13, h⟩ := od_gE h
      obtain ⟨F14, e15, h⟩ := od_upE h
      refine wd_iastore (q := 60) (n := 1200) rfl rfl (by decide) g13 (by decide) ha0 e15 ?_
      have T16 : xm_T F14 := wd_T e15 (T12.ua (k := 60) (kd := 1000) (n := 1200) (i := F10 59 3) (v := a0) rfl (by decide) g13 (show a0 < 4294967296 from ha0))
      refine wq_aload_n rfl rfl rfl ?_
      refine xm_getR (v := 36893488147419103293) (q := 59) rfl rfl (by decide) (by decide) (T16.r (k := 59) 2 60 rfl (by decide) rfl) ?_
      refine wq_aload_n rfl rfl rfl ?_
      refine xm_getI (q := 59) rfl rfl (by decide) (by decide) ?_
      refine wq_iconst rfl rfl ?_
      obtain ⟨g17, h⟩ := od_gE h
      obtain ⟨F18, e19, h⟩ := od_upE h
      refine wd_iastore (q := 61) (n := 1200) rfl rfl (by decide) g17 (by decide) (by decide) e19 ?_
      have T20 : xm_T F18 := wd_T e19 (T16.ua (k := 61) (kd := 1000) (n := 1200) (i := F14 59 3) (v := 4294967295) rfl (by decide) g17 (show 4294967295 < 4294967296 from (by decide)))
      refine wq_aload_n rfl rfl rfl ?_
      refine wq_dup rfl rfl ?_
      refine xm_getI (q := 59) rfl rfl (by decide) (by decide) ?_
      refine wq_iconst rfl rfl ?_
      refine wq_iaddZ rfl (T20.i (k := 59) 3 rfl (by decide) rfl) (wm_zlt (by decide)) (z := ((F18 59 3) + 1) % 4294967296) rfl ?_
      obtain ⟨y21, e22, h⟩ := od_letE h
      refine wq_top e22.symm ?_
      have p23 : y21 < 4294967296 := wd_lt e22 (Nat.mod_lt _ (by decide))
      obtain ⟨F24, e25, h⟩ := od_upE h
      refine xmE_put (q := 59) rfl rfl (by decide) (by decide) (wq_I p23) e25 ?_
      have T26 : xm_T F24 := wd_T e25 (T20.uf (k := 59) (f := 3) (c := 0) (v := y21) rfl (by decide) rfl (show y21 < 4294967296 from p23))
      refine wq_iconst rfl rfl ?_
      exact wq_iret rfl (wm_zlt (by decide)) (Nat.blt_eq.mpr (by decide)) (wkOZ h T26 (by decide))
    · replace h := od_neg h (Nat.not_lt.mpr h4)
      refine wq_iconst rfl rfl ?_
      exact wq_iret rfl (wm_zlt (by decide)) (Nat.blt_eq.mpr (by decide)) (wkOZ h hT (by decide))
/-- X4_newName -/
def dk_124 (F : wq_F) : Option (Nat × wq_F) :=
  if (F 57 4) = 2 then
    (dk_166 F (ev_oL2i (F 57 8))).bind fun y2 =>
    if y2.1 = 0 then
      (dk_109 y2.2 3).bind fun y7 =>
      some (0, y7.2)
    else
      some (0, y2.2)
  else
    (dk_109 F 2).bind fun y11 =>
    some (0, y11.2)
theorem dkT_124 {d : Nat} {F : wq_F} (hT : xm_T F) {x : Nat × wq_F} (h : dk_124 F = some x) : mq (d + 2 + 1) 124 [36893488147419103288] xm_sh F (wkN xm_T xm_sh x) := by
  have e : ev_ent [36893488147419103288] = [36893488147419103288] := by
    rfl
  refine mq_of (maxL := 1) (rt := none) (code := (ev_un al_mX4_newName.2.2.2.2)) (L := [36893488147419103288]) rfl (by rw [e]; exact Nat.le_of_ble_eq_true rfl) (by rw [e]; rfl) ?_
  unfold dk_124 at h
  refine wq_aload_n rfl rfl rfl ?_
  refine xm_getR (v := 36893488147419103289) (q := 56) rfl rfl (by decide) (by decide) (hT.r (k := 56) 0 56 rfl (by decide) rfl) ?_
  refine xm_getI (q := 57) rfl rfl (by decide) (by decide) ?_
  refine wq_iconst rfl rfl ?_
  refine wq_ic_eq rfl rfl (hT.i (k := 57) 4 rfl (by decide) rfl) (by decide) (fun h1 => ?_) (fun h1 => ?_)
  · replace h := od_pos h h1
    refine wq_aload_n rfl rfl rfl ?_
    refine xm_getR (v := 36893488147419103291) (q := 56) rfl rfl (by decide) (by decide) (hT.r (k := 56) 3 58 rfl (by decide) rfl) ?_
    refine wq_aload_n rfl rfl rfl ?_
    refine xm_getR (v := 36893488147419103289) (q := 56) rfl rfl (by decide) (by decide) (hT.r (k := 56) 0 56 rfl (by decide) rfl) ?_
    refine xm_getI (q := 57) rfl rfl (by decide) (by decide) ?_
    refine wq_l2i rfl (hT.l (k := 57) 8 rfl (by decide) rfl) ?_
    obtain ⟨y2, e3, h⟩ := od_bindE h
    refine wd_virtZ (q := 59) (y := y2) (as := [36893488147419103291, ev_oL2i (F 57 8)]) rfl rfl rfl (by decide) (Nat.le_of_ble_eq_true rfl) (Nat.le_of_ble_eq_true rfl) rfl (Nat.le_of_ble_eq_true rfl) rfl (dkT_166 hT (Nat.mod_lt _ (by decide)) e3) (fun p4 T5 => ?_)
    refine wq_if_ne rfl rfl (wm_zlt p4) (fun h6 => ?_) (fun h6 => ?_)
    · replace h := od_neg h h6
      exact wq_ret rfl (wkON h T5)
    · replace h := od_pos h h6
      refine wq_aload_n rfl rfl rfl ?_
      refine wq_iconst rfl rfl ?_
      obtain ⟨y7, e8, h⟩ := od_bindE h
      refine wd_virtN (q := 56) (y := y7) (as := [36893488147419103288, 3]) rfl rfl rfl (by decide) (Nat.le_of_ble_eq_true rfl) (Nat.le_of_ble_eq_true rfl) rfl (Nat.le_of_ble_eq_true rfl) rfl (dkT_109 T5 (by decide) e8) (fun T10 => ?_)
      exact wq_ret rfl (wkON h T10)
  · replace h := od_neg h h1
    refine wq_aload_n rfl rfl rfl ?_
    refine wq_iconst rfl rfl ?_
    obtain ⟨y11, e12, h⟩ := od_bindE h
    refine wd_virtN (q := 56) (y := y11) (as := [36893488147419103288, 2]) rfl rfl rfl (by decide) (Nat.le_of_ble_eq_true rfl) (Nat.le_of_ble_eq_true rfl) rfl (Nat.le_of_ble_eq_true rfl) rfl (dkT_109 hT (by decide) e12) (fun T14 => ?_)
    refine wq_goto rfl rfl ?_
    exact wq_ret rfl (wkON h T14)
def dk_156_117 (n : Nat) (F : wq_F) (v1 : Nat) (v2 : Nat) : Option (Nat × wq_F) :=
  if v2 = 0 then
    some (0, F)
  else
    od_g (v1 < 50) <|
    od_up F 22 v1 1 fun F3 =>
    (dk_77 n F3).bind fun y6 =>
    some (0, y6.2)
theorem dk_156_117T {d n : Nat} : ∀ ⦃u3 : Nat⦄ ⦃u4 : Nat⦄ ⦃F : wq_F⦄ (hT : xm_T F) ⦃v1 : Nat⦄ (hv1 : v1 < 4294967296) ⦃v2 : Nat⦄ (hv2 : v2 < 2) (hu3 : ev_isL u3 = false) (hu4 : ev_isL u4 = false) ⦃x : Nat × wq_F⦄ (h : dk_156_117 n F v1 v2 = some x), wq (wq_cf (d + 6)) (ev_un al_mX4_parameters.2.2.2.2) none 117 [36893488147419103288, v1, v2, u3, u4] [] xm_sh F 0 0 (wkN xm_T xm_sh x) := by
  intro u3 u4 F hT v1 hv1 v2 hv2 hu3 hu4 x h
  unfold dk_156_117 at h
  refine wq_iload_n rfl rfl (wm_zlt hv2) ?_
  refine wq_if_eq rfl rfl (wm_zlt hv2) (fun h1 => ?_) (fun h1 => ?_)
  · replace h := od_pos h h1
    exact wq_ret rfl (wkON h hT)
  · replace h := od_neg h h1
    refine wq_aload_n rfl rfl rfl ?_
    refine xm_getR (v := 36893488147419103243) (q := 56) rfl rfl (by decide) (by decide) (hT.r (k := 56) 1 10 rfl (by decide) rfl) ?_
    refine xm_getR (v := 36893488147419103254) (q := 11) rfl rfl (by decide) (by decide) (hT.r (k := 11) 12 21 rfl (by decide) rfl) ?_
    refine wq_iload_n rfl rfl hv1 ?_
    refine wq_iconst rfl rfl ?_
    obtain ⟨g2, h⟩ := od_gE h
    obtain ⟨F3, e4, h⟩ := od_upE h
    refine wd_zastore (q := 22) (n := 50) rfl rfl (by decide) g2 (by decide) (by decide) e4 ?_
    have T5 : xm_T F3 := wd_T e4 (hT.ua (k := 22) (kd := 1002) (n := 50) (i := v1) (v := 1) rfl (by decide) g2 (show 1 < 2 from (by decide)))
    refine wq_aload_n rfl rfl rfl ?_
    obtain ⟨y6, e7, h⟩ := od_bindE h
    refine wd_virtN (q := 56) (y := y6) (as := [36893488147419103288]) rfl rfl rfl (by decide) (Nat.le_of_ble_eq_true rfl) (Nat.le_of_ble_eq_true rfl) rfl (Nat.le_of_ble_eq_true rfl) rfl (dkT_77 T5 e7) (fun T9 => ?_)
    exact wq_ret rfl (wkON h T9)
def dk_156_100 (n : Nat) (r38 : wq_F → Nat → Nat → Nat → Nat → Option (Nat × wq_F)) (F : wq_F) (v1 : Nat) (v4 : Nat) (s0 : Nat) : Option (Nat × wq_F) :=
  if s0 = 0 then
    od_let ((v4 + 1) % 4294967296) fun y5 =>
    r38 F v1 s0 1 y5
  else
    od_let ((v4 + 1) % 4294967296) fun y2 =>
    r38 F v1 s0 0 y2
theorem dk_156_100T {d n : Nat} {r38 : wq_F → Nat → Nat → Nat → Nat → Option (Nat × wq_F)} (hr38 : ∀ ⦃F : wq_F⦄ (hT : xm_T F) ⦃v1 : Nat⦄ (hv1 : v1 < 4294967296) ⦃v2 : Nat⦄ (hv2 : v2 < 2) ⦃v3 : Nat⦄ (hv3 : v3 < 2) ⦃v4 : Nat⦄ (hv4 : v4 < 4294967296) ⦃x : Nat × wq_F⦄ (h : r38 F v1 v2 v3 v4 = some x), wq (wq_cf (d + 6)) (ev_un al_mX4_parameters.2.2.2.2) none 38 [36893488147419103288, v1, v2, v3, v4] [] xm_sh F 0 0 (wkN xm_T xm_sh x)) : ∀ ⦃u2 : Nat⦄ ⦃u3 : Nat⦄ ⦃F : wq_F⦄ (hT : xm_T F) ⦃v1 : Nat⦄ (hv1 : v1 < 4294967296) ⦃v4 : Nat⦄ (hv4 : v4 < 4294967296) ⦃s0 : Nat⦄ (hs0 : s0 < 2) (hu2 : ev_isL u2 = false) (hu3 : ev_isL u3 = false) ⦃x : Nat × wq_F⦄ (h : dk_156_100 n r38 F v1 v4 s0 = some x), wq (wq_cf (d + 6)) (ev_un al_mX4_parameters.2.2.2.2) none 100 [36893488147419103288, v1, u2, u3, v4] [s0] xm_sh F 0 0 (wkN xm_T xm_sh x) := by
  intro u2 u3 F hT v1 hv1 v4 hv4 s0 hs0 hu2 hu3 x h
  unfold dk_156_100 at h
  refine wq_istore_n rfl (wm_zlt hs0) (Nat.le_of_ble_eq_true rfl) (Or.inr ⟨_, rfl, (wq_notL hv1)⟩) (L' := [36893488147419103288, v1, s0, u3, v4]) rfl ?_
  refine wq_iload_n rfl rfl (wm_zlt hs0) ?_
  refine wq_if_ne rfl rfl (wm_zlt hs0) (fun h1 => ?_) (fun h1 => ?_)
  · replace h := od_neg h h1
    refine wq_iconst rfl rfl ?_
    refine wq_istore_n rfl (wm_zlt (by decide)) (Nat.le_of_ble_eq_true rfl) (Or.inr ⟨_, rfl, (wq_notL (wm_zlt hs0))⟩) (L' := [36893488147419103288, v1, s0, 0, v4]) rfl ?_
    obtain ⟨y2, e3, h⟩ := od_letE h
    have p4 : y2 < 4294967296 := wd_lt e3 (Nat.mod_lt _ (by decide))
    refine wq_iincZ rfl rfl hv4 (Or.inr ⟨_, rfl, (wq_notL (wm_zlt (by decide)))⟩) rfl (z := y2) e3.symm (L' := [36893488147419103288, v1, s0, 0, y2]) rfl ?_
    refine wq_goto rfl rfl ?_
    exact hr38 hT hv1 hs0 (by decide) p4 h
  · replace h := od_pos h h1
    refine wq_iconst rfl rfl ?_
    refine wq_goto rfl rfl ?_
    refine wq_istore_n rfl (wm_zlt (by decide)) (Nat.le_of_ble_eq_true rfl) (Or.inr ⟨_, rfl, (wq_notL (wm_zlt hs0))⟩) (L' := [36893488147419103288, v1, s0, 1, v4]) rfl ?_
    obtain ⟨y5, e6, h⟩ := od_letE h
    have p7 : y5 < 4294967296 := wd_lt e6 (Nat.mod_lt _ (by decide))
    refine wq_iincZ rfl rfl hv4 (Or.inr ⟨_, rfl, (wq_notL (wm_zlt (by decide)))⟩) rfl (z := y5) e6.symm (L' := [36893488147419103288, v1, s0, 1, y5]) rfl ?_
    refine wq_goto rfl rfl ?_
    exact hr38 hT hv1 hs0 (by decide) p7 h
def dk_156_74 (n : Nat) (r38 : wq_F → Nat → Nat → Nat → Nat → Option (Nat × wq_F)) (F : wq_F) (v1 : Nat) (v2 : Nat) (v4 : Nat) (s0 : Nat) : Option (Nat × wq_F) :=
  if s0 = 0 then
    od_let ((v4 + 1) % 4294967296) fun y2 =>
    r38 F v1 v2 s0 y2
  else
    (dk_77 n F).bind fun y5 =>
    if (y5.2 57 4) = 65 then
      dk_156_100 n r38 y5.2 v1 v4 1
    else
      dk_156_100 n r38 y5.2 v1 v4 0
theorem dk_156_74T {d n : Nat} {r38 : wq_F → Nat → Nat → Nat → Nat → Option (Nat × wq_F)} (hr38 : ∀ ⦃F : wq_F⦄ (hT : xm_T F) ⦃v1 : Nat⦄ (hv1 : v1 < 4294967296) ⦃v2 : Nat⦄ (hv2 : v2 < 2) ⦃v3 : Nat⦄ (hv3 : v3 < 2) ⦃v4 : Nat⦄ (hv4 : v4 < 4294967296) ⦃x : Nat × wq_F⦄ (h : r38 F v1 v2 v3 v4 = some x), wq (wq_cf (d + 6)) (ev_un al_mX4_parameters.2.2.2.2) none 38 [36893488147419103288, v1, v2, v3, v4] [] xm_sh F 0 0 (wkN xm_T xm_sh x)) : ∀ ⦃u3 : Nat⦄ ⦃F : wq_F⦄ (hT : xm_T F) ⦃v1 : Nat⦄ (hv1 : v1 < 4294967296) ⦃v2 : Nat⦄ (hv2 : v2 < 2) ⦃v4 : Nat⦄ (hv4 : v4 < 4294967296) ⦃s0 : Nat⦄ (hs0 : s0 < 2) (hu3 : ev_isL u3 = false) ⦃x : Nat × wq_F⦄ (h : dk_156_74 n r38 F v1 v2 v4 s0 = some x), wq (wq_cf (d + 6)) (ev_un al_mX4_parameters.2.2.2.2) none 74 [36893488147419103288, v1, v2, u3, v4] [s0] xm_sh F 0 0 (wkN xm_T xm_sh x) := by
  intro u3 F hT v1 hv1 v2 hv2 v4 hv4 s0 hs0 hu3 x h
  unfold dk_156_74 at h
  refine wq_istore_n rfl (wm_zlt hs0) (Nat.le_of_ble_eq_true rfl) (Or.inr ⟨_, rfl, (wq_notL (wm_zlt hv2))⟩) (L' := [36893488147419103288, v1, v2, s0, v4]) rfl ?_
  refine wq_iload_n rfl rfl (wm_zlt hs0) ?_
  refine wq_if_eq rfl rfl (wm_zlt hs0) (fun h1 => ?_) (fun h1 => ?_)
  · replace h := od_pos h h1
    obtain ⟨y2, e3, h⟩ := od_letE h
    have p4 : y2 < 4294967296 := wd_lt e3 (Nat.mod_lt _ (by decide))
    refine wq_iincZ rfl rfl hv4 (Or.inr ⟨_, rfl, (wq_notL (wm_zlt hs0))⟩) rfl (z := y2) e3.symm (L' := [36893488147419103288, v1, v2, s0, y2]) rfl ?_
    refine wq_goto rfl rfl ?_
    exact hr38 hT hv1 hv2 hs0 p4 h
  · replace h := od_neg h h1
    refine wq_aload_n rfl rfl rfl ?_
    obtain ⟨y5, e6, h⟩ := od_bindE h
    refine wd_virtN (q := 56) (y := y5) (as := [36893488147419103288]) rfl rfl rfl (by decide) (Nat.le_of_ble_eq_true rfl) (Nat.le_of_ble_eq_true rfl) rfl (Nat.le_of_ble_eq_true rfl) rfl (dkT_77 hT e6) (fun T8 => ?_)
    refine wq_aload_n rfl rfl rfl ?_
    refine xm_getR (v := 36893488147419103289) (q := 56) rfl rfl (by decide) (by decide) (T8.r (k := 56) 0 56 rfl (by decide) rfl) ?_
    refine xm_getI (q := 57) rfl rfl (by decide) (by decide) ?_
    refine wq_bipush rfl rfl ?_
    refine wq_ic_ne rfl rfl (T8.i (k := 57) 4 rfl (by decide) rfl) (by decide) (fun h9 => ?_) (fun h9 => ?_)
    · replace h := od_neg h h9
      refine wq_iconst rfl rfl ?_
      exact dk_156_100T hr38 T8 hv1 hv4 (by decide) (wq_notL (wm_zlt hv2)) (wq_notL (wm_zlt hs0)) h
    · replace h := od_pos h h9
      refine wq_iconst rfl rfl ?_
      refine wq_goto rfl rfl ?_
      exact dk_156_100T hr38 T8 hv1 hv4 (by decide) (wq_notL (wm_zlt hv2)) (wq_notL (wm_zlt hs0)) h
def dk_156_38b (n : Nat) (r38 : wq_F → Nat → Nat → Nat → Nat → Option (Nat × wq_F)) (F : wq_F) (v1 : Nat) (v2 : Nat) (v3 : Nat) (v4 : Nat) : Option (Nat × wq_F) :=
  if ev_s 50 < ev_s v4 then
    dk_156_117 n F v1 v2
  else
    if v3 = 0 then
      dk_156_117 n F v1 v2
    else
      (dk_124 F).bind fun y3 =>
      (dk_77 n y3.2).bind fun y7 =>
      if (y7.2 57 4) = 59 then
        dk_156_74 n r38 y7.2 v1 v2 v4 1
      else
        dk_156_74 n r38 y7.2 v1 v2 v4 0
theorem dk_156_38bT {d n : Nat} {r38 : wq_F → Nat → Nat → Nat → Nat → Option (Nat × wq_F)} (hr38 : ∀ ⦃F : wq_F⦄ (hT : xm_T F) ⦃v1 : Nat⦄ (hv1 : v1 < 4294967296) ⦃v2 : Nat⦄ (hv2 : v2 < 2) ⦃v3 : Nat⦄ (hv3 : v3 < 2) ⦃v4 : Nat⦄ (hv4 : v4 < 4294967296) ⦃x : Nat × wq_F⦄ (h : r38 F v1 v2 v3 v4 = some x), wq (wq_cf (d + 6)) (ev_un al_mX4_parameters.2.2.2.2) none 38 [36893488147419103288, v1, v2, v3, v4] [] xm_sh F 0 0 (wkN xm_T xm_sh x)) : ∀ ⦃F : wq_F⦄ (hT : xm_T F) ⦃v1 : Nat⦄ (hv1 : v1 < 4294967296) ⦃v2 : Nat⦄ (hv2 : v2 < 2) ⦃v3 : Nat⦄ (hv3 : v3 < 2) ⦃v4 : Nat⦄ (hv4 : v4 < 4294967296) ⦃x : Nat × wq_F⦄ (h : dk_156_38b n r38 F v1 v2 v3 v4 = some x), wq (wq_cf (d + 6)) (ev_un al_mX4_parameters.2.2.2.2) none 38 [36893488147419103288, v1, v2, v3, v4] [] xm_sh F 0 0 (wkN xm_T xm_sh x) := by
  intro F hT v1 hv1 v2 hv2 v3 hv3 v4 hv4 x h
  unfold dk_156_38b at h
  refine wq_iload rfl rfl hv4 ?_
  refine wq_bipush rfl rfl ?_
  refine wq_ic_gt rfl rfl hv4 (by decide) (fun h1 => ?_) (fun h1 => ?_)
  · replace h := od_pos h h1
    exact dk_156_117T hT hv1 hv2 (wq_notL (wm_zlt hv3)) (wq_notL hv4) h
  · replace h := od_neg h (Nat.not_lt.mpr h1)
    refine wq_iload_n rfl rfl (wm_zlt hv3) ?_
    refine wq_if_eq rfl rfl (wm_zlt hv3) (fun h2 => ?_) (fun h2 => ?_)
    · replace h := od_pos h h2
      exact dk_156_117T hT hv1 hv2 (wq_notL (wm_zlt hv3)) (wq_notL hv4) h
    · replace h := od_neg h h2
      refine wq_aload_n rfl rfl rfl ?_
      obtain ⟨y3, e4, h⟩ := od_bindE h
      refine wd_virtN (q := 56) (y := y3) (as := [36893488147419103288]) rfl rfl rfl (by decide) (Nat.le_of_ble_eq_true rfl) (Nat.le_of_ble_eq_true rfl) rfl (Nat.le_of_ble_eq_true rfl) rfl (dkT_124 hT e4) (fun T6 => ?_)
      refine wq_aload_n rfl rfl rfl ?_
      obtain ⟨y7, e8, h⟩ := od_bindE h
      refine wd_virtN (q := 56) (y := y7) (as := [36893488147419103288]) rfl rfl rfl (by decide) (Nat.le_of_ble_eq_true rfl) (Nat.le_of_ble_eq_true rfl) rfl (Nat.le_of_ble_eq_true rfl) rfl (dkT_77 T6 e8) (fun T10 => ?_)
      refine wq_aload_n rfl rfl rfl ?_
      refine xm_getR (v := 36893488147419103289) (q := 56) rfl rfl (by decide) (by decide) (T10.r (k := 56) 0 56 rfl (by decide) rfl) ?_
      refine xm_getI (q := 57) rfl rfl (by decide) (by decide) ?_
      refine wq_bipush rfl rfl ?_
      refine wq_ic_ne rfl rfl (T10.i (k := 57) 4 rfl (by decide) rfl) (by decide) (fun h11 => ?_) (fun h11 => ?_)
      · replace h := od_neg h h11
        refine wq_iconst rfl rfl ?_
        exact dk_156_74T hr38 T10 hv1 hv2 hv4 (by decide) (wq_notL (wm_zlt hv3)) h
      · replace h := od_pos h h11
        refine wq_iconst rfl rfl ?_
        refine wq_goto rfl rfl ?_
        exact dk_156_74T hr38 T10 hv1 hv2 hv4 (by decide) (wq_notL (wm_zlt hv3)) h
def dk_156_38 (n : Nat) : Nat → wq_F → Nat → Nat → Nat → Nat → Option (Nat × wq_F)
  | 0 => fun _ _ _ _ _ => none
  | g + 1 => dk_156_38b n (dk_156_38 n g)
theorem dk_156_38T {d n : Nat} : ∀ g : Nat, ∀ ⦃F : wq_F⦄ (hT : xm_T F) ⦃v1 : Nat⦄ (hv1 : v1 < 4294967296) ⦃v2 : Nat⦄ (hv2 : v2 < 2) ⦃v3 : Nat⦄ (hv3 : v3 < 2) ⦃v4 : Nat⦄ (hv4 : v4 < 4294967296) ⦃x : Nat × wq_F⦄ (h : dk_156_38 n g F v1 v2 v3 v4 = some x), wq (wq_cf (d + 6)) (ev_un al_mX4_parameters.2.2.2.2) none 38 [36893488147419103288, v1, v2, v3, v4] [] xm_sh F 0 0 (wkN xm_T xm_sh x)
  | 0 => by
    intro F hT v1 hv1 v2 hv2 v3 hv3 v4 hv4 x h
    cases h
  | g + 1 => dk_156_38bT (dk_156_38T g)
def dk_156_17 (n : Nat) (F : wq_F) (v1 : Nat) (s0 : Nat) : Option (Nat × wq_F) :=
  if (F 57 4) = 2 then
    dk_156_38 n n F v1 s0 1 0
  else
    dk_156_38 n n F v1 s0 0 0
theorem dk_156_17T {d n : Nat} : ∀ ⦃F : wq_F⦄ (hT : xm_T F) ⦃v1 : Nat⦄ (hv1 : v1 < 4294967296) ⦃s0 : Nat⦄ (hs0 : s0 < 2) ⦃x : Nat × wq_F⦄ (h : dk_156_17 n F v1 s0 = some x), wq (wq_cf (d + 6)) (ev_un al_mX4_parameters.2.2.2.2) none 17 [36893488147419103288, v1, 73786976294838206464, 73786976294838206464, 73786976294838206464] [s0] xm_sh F 0 0 (wkN xm_T xm_sh x) := by
  intro F hT v1 hv1 s0 hs0 x h
  unfold dk_156_17 at h
  refine wq_istore_n rfl (wm_zlt hs0) (Nat.le_of_ble_eq_true rfl) (Or.inr ⟨_, rfl, (wq_notL hv1)⟩) (L' := [36893488147419103288, v1, s0, 73786976294838206464, 73786976294838206464]) rfl ?_
  refine wq_aload_n rfl rfl rfl ?_
  refine xm_getR (v := 36893488147419103289) (q := 56) rfl rfl (by decide) (by decide) (hT.r (k := 56) 0 56 rfl (by decide) rfl) ?_
  refine xm_getI (q := 57) rfl rfl (by decide) (by decide) ?_
  refine wq_iconst rfl rfl ?_
  refine wq_ic_ne rfl rfl (hT.i (k := 57) 4 rfl (by decide) rfl) (by decide) (fun h1 => ?_) (fun h1 => ?_)
  · replace h := od_neg h h1
    refine wq_iconst rfl rfl ?_
    refine wq_istore_n rfl (wm_zlt (by decide)) (Nat.le_of_ble_eq_true rfl) (Or.inr ⟨_, rfl, (wq_notL (wm_zlt hs0))⟩) (L' := [36893488147419103288, v1, s0, 0, 73786976294838206464]) rfl ?_
    refine wq_iconst rfl rfl ?_
    refine wq_istore rfl (wm_zlt (by decide)) (Nat.le_of_ble_eq_true rfl) (Or.inr ⟨_, rfl, (wq_notL (wm_zlt (by decide)))⟩) (L' := [36893488147419103288, v1, s0, 0, 0]) rfl ?_
    exact dk_156_38T n hT hv1 hs0 (by decide) (wm_zlt (by decide)) h
  · replace h := od_pos h h1
    refine wq_iconst rfl rfl ?_
    refine wq_goto rfl rfl ?_
    refine wq_istore_n rfl (wm_zlt (by decide)) (Nat.le_of_ble_eq_true rfl) (Or.inr ⟨_, rfl, (wq_notL (wm_zlt hs0))⟩) (L' := [36893488147419103288, v1, s0, 1, 73786976294838206464]) rfl ?_
    refine wq_iconst rfl rfl ?_
    refine wq_istore rfl (wm_zlt (by decide)) (Nat.le_of_ble_eq_true rfl) (Or.inr ⟨_, rfl, (wq_notL (wm_zlt (by decide)))⟩) (L' := [36893488147419103288, v1, s0, 1, 0]) rfl ?_
    exact dk_156_38T n hT hv1 hs0 (by decide) (wm_zlt (by decide)) h
/-- X4_parameters -/
def dk_156 (n : Nat) (F : wq_F) (a0 : Nat) : Option (Nat × wq_F) :=
  if (F 57 4) = 65 then
    dk_156_17 n F a0 1
  else
    dk_156_17 n F a0 0
theorem dkT_156 {d n : Nat} {F : wq_F} (hT : xm_T F) {a0 : Nat} (ha0 : a0 < 4294967296) {x : Nat × wq_F} (h : dk_156 n F a0 = some x) : mq (d + 6 + 1) 156 [36893488147419103288, a0] xm_sh F (wkN xm_T xm_sh x) := by
  have e : ev_ent [36893488147419103288, a0] = [36893488147419103288, a0] := by
    show 36893488147419103288 :: ev_ent [a0] = _
    rw [wm_entI ha0]
    rfl
  refine mq_of (maxL := 5) (rt := none) (code := (ev_un al_mX4_parameters.2.2.2.2)) (L := [36893488147419103288, a0, 73786976294838206464, 73786976294838206464, 73786976294838206464]) rfl (by rw [e]; exact Nat.le_of_ble_eq_true rfl) (by rw [e]; rfl) ?_
  unfold dk_156 at h
  refine wq_aload_n rfl rfl rfl ?_
  refine xm_getR (v := 36893488147419103289) (q := 56) rfl rfl (by decide) (by decide) (hT.r (k := 56) 0 56 rfl (by decide) rfl) ?_
  refine xm_getI (q := 57) rfl rfl (by decide) (by decide) ?_
  refine wq_bipush rfl rfl ?_
  refine wq_ic_ne rfl rfl (hT.i (k := 57) 4 rfl (by decide) rfl) (by decide) (fun h1 => ?_) (fun h1 => ?_)
  · replace h := od_neg h h1
    refine wq_iconst rfl rfl ?_
    exact dk_156_17T hT ha0 (by decide) h
  · replace h := od_pos h h1
    refine wq_iconst rfl rfl ?_
    refine wq_goto rfl rfl ?_
    exact dk_156_17T hT ha0 (by decide) h
def dk_167_2b (n : Nat) (r2 : wq_F → Nat → Nat → Nat → Option (Nat × wq_F)) (F : wq_F) (v1 : Nat) (v2 : Nat) (v3 : Nat) : Option (Nat × wq_F) :=
  if ev_s v3 < ev_s (F 59 3) then
    od_let ((((v2 + v3) % 4294967296) + (4294967296 - v1)) % 4294967296) fun y2 =>
    od_g (v3 < 1200) <|
    od_up F 61 v3 y2 fun F6 =>
    od_let ((v3 + 1) % 4294967296) fun y9 =>
    r2 F6 v1 v2 y9
  else
    some (0, F)
theorem dk_167_2bT {d n : Nat} {r2 : wq_F → Nat → Nat → Nat → Option (Nat × wq_F)} (hr2 : ∀ ⦃F : wq_F⦄ (hT : xm_T F) ⦃v1 : Nat⦄ (hv1 : v1 < 4294967296) ⦃v2 : Nat⦄ (hv2 : v2 < 4294967296) ⦃v3 : Nat⦄ (hv3 : v3 < 4294967296) ⦃x : Nat × wq_F⦄ (h : r2 F v1 v2 v3 = some x), wq (wq_cf (d + 0)) (ev_un al_mX7_reveal.2.2.2.2) none 2 [36893488147419103291, v1, v2, v3] [] xm_sh F 0 0 (wkN xm_T xm_sh x)) : ∀ ⦃F : wq_F⦄ (hT : xm_T F) ⦃v1 : Nat⦄ (hv1 : v1 < 4294967296) ⦃v2 : Nat⦄ (hv2 : v2 < 4294967296) ⦃v3 : Nat⦄ (hv3 : v3 < 4294967296) ⦃x : Nat × wq_F⦄ (h : dk_167_2b n r2 F v1 v2 v3 = some x), wq (wq_cf (d + 0)) (ev_un al_mX7_reveal.2.2.2.2) none 2 [36893488147419103291, v1, v2, v3] [] xm_sh F 0 0 (wkN xm_T xm_sh x) := by
  intro F hT v1 hv1 v2 hv2 v3 hv3 x h
  unfold dk_167_2b at h
  refine wq_iload_n rfl rfl hv3 ?_
  refine wq_aload_n rfl rfl rfl ?_
  refine xm_getI (q := 59) rfl rfl (by decide) (by decide) ?_
  refine wq_ic_ge rfl rfl hv3 (hT.i (k := 59) 3 rfl (by decide) rfl) (fun h1 => ?_) (fun h1 => ?_)
  · replace h := od_neg h (Nat.not_lt.mpr h1)
    exact wq_ret rfl (wkON h hT)
  · replace h := od_pos h h1
    refine wq_aload_n rfl rfl rfl ?_
    refine xm_getR (v := 36893488147419103293) (q := 59) rfl rfl (by decide) (by decide) (hT.r (k := 59) 2 60 rfl (by decide) rfl) ?_
    refine wq_iload_n rfl rfl hv3 ?_
    refine wq_iload_n rfl rfl hv2 ?_
    refine wq_iload_n rfl rfl hv3 ?_
    refine wq_iaddZ rfl hv2 hv3 (z := (v2 + v3) % 4294967296) rfl ?_
    refine wq_iload_n rfl rfl hv1 ?_
    refine wq_isubZ rfl (Nat.mod_lt _ (by decide)) hv1 (z := (((v2 + v3) % 4294967296) + (4294967296 - v1)) % 4294967296) rfl ?_
    obtain ⟨y2, e3, h⟩ := od_letE h
    refine wq_top e3.symm ?_
    have p4 : y2 < 4294967296 := wd_lt e3 (Nat.mod_lt _ (by decide))
    obtain ⟨g5, h⟩ := od_gE h
    obtain ⟨F6, e7, h⟩ := od_upE h
    refine wd_iastore (q := 61) (n := 1200) rfl rfl (by decide) g5 (by decide) p4 e7 ?_
    have T8 : xm_T F6 := wd_T e7 (hT.ua (k := 61) (kd := 1000) (n := 1200) (i := v3) (v := y2) rfl (by decide) g5 (show y2 < 4294967296 from p4))
    obtain ⟨y9, e10, h⟩ := od_letE h
    have p11 : y9 < 4294967296 := wd_lt e10 (Nat.mod_lt _ (by decide))
    refine wq_iincZ rfl rfl hv3 (Or.inr ⟨_, rfl, (wq_notL hv2)⟩) rfl (z := y9) e10.symm (L' := [36893488147419103291, v1, v2, y9]) rfl ?_
    refine wq_goto rfl rfl ?_
    exact hr2 T8 hv1 hv2 p11 h
def dk_167_2 (n : Nat) : Nat → wq_F → Nat → Nat → Nat → Option (Nat × wq_F)
  | 0 => fun _ _ _ _ => none
  | g + 1 => dk_167_2b n (dk_167_2 n g)
theorem dk_167_2T {d n : Nat} : ∀ g : Nat, ∀ ⦃F : wq_F⦄ (hT : xm_T F) ⦃v1 : Nat⦄ (hv1 : v1 < 4294967296) ⦃v2 : Nat⦄ (hv2 : v2 < 4294967296) ⦃v3 : Nat⦄ (hv3 : v3 < 4294967296) ⦃x : Nat × wq_F⦄ (h : dk_167_2 n g F v1 v2 v3 = some x), wq (wq_cf (d + 0)) (ev_un al_mX7_reveal.2.2.2.2) none 2 [36893488147419103291, v1, v2, v3] [] xm_sh F 0 0 (wkN xm_T xm_sh x)
  | 0 => by
    intro F hT v1 hv1 v2 hv2 v3 hv3 x h
    cases h
  | g + 1 => dk_167_2bT (dk_167_2T g)
/-- X7_reveal -/
def dk_167 (n : Nat) (F : wq_F) (a0 : Nat) (a1 : Nat) : Option (Nat × wq_F) :=
  dk_167_2 n n F a0 a1 a0
theorem dkT_167 {d n : Nat} {F : wq_F} (hT : xm_T F) {a0 : Nat} (ha0 : a0 < 4294967296) {a1 : Nat} (ha1 : a1 < 4294967296) {x : Nat × wq_F} (h : dk_167 n F a0 a1 = some x) : mq (d + 0 + 1) 167 [36893488147419103291, a0, a1] xm_sh F (wkN xm_T xm_sh x) := by
  have e : ev_ent [36893488147419103291, a0, a1] = [36893488147419103291, a0, a1] := by
    show 36893488147419103291 :: ev_ent [a0, a1] = _
    rw [wm_entI ha0, wm_entI ha1]
    rfl
  refine mq_of (maxL := 4) (rt := none) (code := (ev_un al_mX7_reveal.2.2.2.2)) (L := [36893488147419103291, a0, a1, 73786976294838206464]) rfl (by rw [e]; exact Nat.le_of_ble_eq_true rfl) (by rw [e]; rfl) ?_
  unfold dk_167 at h
  refine wq_iload_n rfl rfl ha0 ?_
  refine wq_istore_n rfl ha0 (Nat.le_of_ble_eq_true rfl) (Or.inr ⟨_, rfl, (wq_notL ha1)⟩) (L' := [36893488147419103291, a0, a1, a0]) rfl ?_
  exact dk_167_2T n hT ha0 ha1 ha0 h
/-- X7_leave -/
def dk_160 (F : wq_F) : Option (Nat × wq_F) :=
  od_g (F 59 8 < 24) <|
  od_up F 59 3 (F 63 (F 59 8)) fun F2 =>
  od_let (((F2 59 8) + (4294967296 - 1)) % 4294967296) fun y5 =>
  od_up F2 59 8 y5 fun F8 =>
  some (0, F8)
theorem dkT_160 {d : Nat} {F : wq_F} (hT : xm_T F) {x : Nat × wq_F} (h : dk_160 F = some x) : mq (d + 0 + 1) 160 [36893488147419103291] xm_sh F (wkN xm_T xm_sh x) := by
  have e : ev_ent [36893488147419103291] = [36893488147419103291] := by
    rfl
  refine mq_of (maxL := 1) (rt := none) (code := (ev_un al_mX7_leave.2.2.2.2)) (L := [36893488147419103291]) rfl (by rw [e]; exact Nat.le_of_ble_eq_true rfl) (by rw [e]; rfl) ?_
  unfold dk_160 at h
  refine wq_aload_n rfl rfl rfl ?_
  refine wq_aload_n rfl rfl rfl ?_
  refine xm_getR (v := 36893488147419103295) (q := 59) rfl rfl (by decide) (by decide) (hT.r (k := 59) 5 62 rfl (by decide) rfl) ?_
  refine wq_aload_n rfl rfl rfl ?_
  refine xm_getI (q := 59) rfl rfl (by decide) (by decide) ?_
  obtain ⟨g1, h⟩ := od_gE h
  refine wq_iaload (q := 63) (n := 24) rfl rfl (by decide) g1 (by decide) ?_
  obtain ⟨F2, e3, h⟩ := od_upE h
  refine xmE_put (q := 59) rfl rfl (by decide) (by decide) (wq_I (hT.ai (k := 63) rfl g1)) e3 ?_
  have T4 : xm_T F2 := wd_T e3 (hT.uf (k := 59) (f := 3) (c := 0) (v := F 63 (F 59 8)) rfl (by decide) rfl (show F 63 (F 59 8) < 4294967296 from (hT.ai (k := 63) rfl g1)))
  refine wq_aload_n rfl rfl rfl ?_
  refine wq_dup rfl rfl ?_
  refine xm_getI (q := 59) rfl rfl (by decide) (by decide) ?_
  refine wq_iconst rfl rfl ?_
  refine wq_isubZ rfl (T4.i (k := 59) 8 rfl (by decide) rfl) (wm_zlt (by decide)) (z := ((F2 59 8) + (4294967296 - 1)) % 4294967296) rfl ?_
  obtain ⟨y5, e6, h⟩ := od_letE h
  refine wq_top e6.symm ?_
  have p7 : y5 < 4294967296 := wd_lt e6 (Nat.mod_lt _ (by decide))
  obtain ⟨F8, e9, h⟩ := od_upE h
  refine xmE_put (q := 59) rfl rfl (by decide) (by decide) (wq_I p7) e9 ?_
  have T10 : xm_T F8 := wd_T e9 (T4.uf (k := 59) (f := 8) (c := 0) (v := y5) rfl (by decide) rfl (show y5 < 4294967296 from p7))
  exact wq_ret rfl (wkON h T10)
def dk_159_4b (n : Nat) (r4 : wq_F → Nat → Nat → Option (Nat × wq_F)) (F : wq_F) (v2 : Nat) (v3 : Nat) : Option (Nat × wq_F) :=
  if ev_s v3 < ev_s 10000 then
    if 2147483648 ≤ v2 then
      some (0, F)
    else
      od_g (v2 < 10000) <|
      od_g (v2 < 10000) <|
      od_up F 14 v2 (F 11 4) fun F5 =>
      od_let ((v3 + 1) % 4294967296) fun y8 =>
      r4 F5 (F 14 v2) y8
  else
    some (0, F)
theorem dk_159_4bT {d n : Nat} {r4 : wq_F → Nat → Nat → Option (Nat × wq_F)} (hr4 : ∀ ⦃u1 : Nat⦄ ⦃u4 : Nat⦄ ⦃F : wq_F⦄ (hT : xm_T F) ⦃v2 : Nat⦄ (hv2 : v2 < 4294967296) ⦃v3 : Nat⦄ (hv3 : v3 < 4294967296) (hu1 : ev_isL u1 = false) (hu4 : ev_isL u4 = false) ⦃x : Nat × wq_F⦄ (h : r4 F v2 v3 = some x), wq (wq_cf (d + 0)) (ev_un al_mX6_land.2.2.2.2) none 4 [36893488147419103243, u1, v2, v3, u4] [] xm_sh F 0 0 (wkN xm_T xm_sh x)) : ∀ ⦃u1 : Nat⦄ ⦃u4 : Nat⦄ ⦃F : wq_F⦄ (hT : xm_T F) ⦃v2 : Nat⦄ (hv2 : v2 < 4294967296) ⦃v3 : Nat⦄ (hv3 : v3 < 4294967296) (hu1 : ev_isL u1 = false) (hu4 : ev_isL u4 = false) ⦃x : Nat × wq_F⦄ (h : dk_159_4b n r4 F v2 v3 = some x), wq (wq_cf (d + 0)) (ev_un al_mX6_land.2.2.2.2) none 4 [36893488147419103243, u1, v2, v3, u4] [] xm_sh F 0 0 (wkN xm_T xm_sh x) := by
  intro u1 u4 F hT v2 hv2 v3 hv3 hu1 hu4 x h
  unfold dk_159_4b at h
  refine wq_iload_n rfl rfl hv3 ?_
  refine wq_sipush rfl rfl ?_
  refine wq_ic_ge rfl rfl hv3 (by decide) (fun h1 => ?_) (fun h1 => ?_)
  · replace h := od_neg h (Nat.not_lt.mpr h1)
    exact wq_ret rfl (wkON h hT)
  · replace h := od_pos h h1
    refine wq_iload_n rfl rfl hv2 ?_
    refine wq_if_lt rfl rfl hv2 (fun h2 => ?_) (fun h2 => ?_)
    · replace h := od_pos h h2
      exact wq_ret rfl (wkON h hT)
    · replace h := od_neg h (Nat.not_le.mpr h2)
      refine wq_aload_n rfl rfl rfl ?_
      refine xm_getR (v := 36893488147419103246) (q := 11) rfl rfl (by decide) (by decide) (hT.r (k := 11) 2 13 rfl (by decide) rfl) ?_
      refine wq_iload_n rfl rfl hv2 ?_
      obtain ⟨g3, h⟩ := od_gE h
      refine wq_iaload (q := 14) (n := 10000) rfl rfl (by decide) g3 (by decide) ?_
      refine wq_istore rfl (hT.ai (k := 14) rfl g3) (Nat.le_of_ble_eq_true rfl) (Or.inr ⟨_, rfl, (wq_notL hv3)⟩) (L' := [36893488147419103243, u1, v2, v3, F 14 v2]) rfl ?_
      refine wq_aload_n rfl rfl rfl ?_
      refine xm_getR (v := 36893488147419103246) (q := 11) rfl rfl (by decide) (by decide) (hT.r (k := 11) 2 13 rfl (by decide) rfl) ?_
      refine wq_iload_n rfl rfl hv2 ?_
      refine wq_aload_n rfl rfl rfl ?_
      refine xm_getI (q := 11) rfl rfl (by decide) (by decide) ?_
      obtain ⟨g4, h⟩ := od_gE h
      obtain ⟨F5, e6, h⟩ := od_upE h
      refine wd_iastore (q := 14) (n := 10000) rfl rfl (by decide) g4 (by decide) (hT.i (k := 11) 4 rfl (by decide) rfl) e6 ?_
      have T7 : xm_T F5 := wd_T e6 (hT.ua (k := 14) (kd := 1000) (n := 10000) (i := v2) (v := F 11 4) rfl (by decide) g4 (show F 11 4 < 4294967296 from (hT.i (k := 11) 4 rfl (by decide) rfl)))
      refine wq_iload rfl rfl (hT.ai (k := 14) rfl g3) ?_
      refine wq_istore_n rfl (hT.ai (k := 14) rfl g3) (Nat.le_of_ble_eq_true rfl) (Or.inr ⟨_, rfl, hu1⟩) (L' := [36893488147419103243, u1, F 14 v2, v3, F 14 v2]) rfl ?_
      obtain ⟨y8, e9, h⟩ := od_letE h
      have p10 : y8 < 4294967296 := wd_lt e9 (Nat.mod_lt _ (by decide))
      refine wq_iincZ rfl rfl hv3 (Or.inr ⟨_, rfl, (wq_notL (hT.ai (k := 14) rfl g3))⟩) rfl (z := y8) e9.symm (L' := [36893488147419103243, u1, F 14 v2, y8, F 14 v2]) rfl ?_
      refine wq_goto rfl rfl ?_
      exact hr4 T7 (hT.ai (k := 14) rfl g3) p10 hu1 (wq_notL (hT.ai (k := 14) rfl g3)) h
def dk_159_4 (n : Nat) : Nat → wq_F → Nat → Nat → Option (Nat × wq_F)
  | 0 => fun _ _ _ => none
  | g + 1 => dk_159_4b n (dk_159_4 n g)
theorem dk_159_4T {d n : Nat} : ∀ g : Nat, ∀ ⦃u1 : Nat⦄ ⦃u4 : Nat⦄ ⦃F : wq_F⦄ (hT : xm_T F) ⦃v2 : Nat⦄ (hv2 : v2 < 4294967296) ⦃v3 : Nat⦄ (hv3 : v3 < 4294967296) (hu1 : ev_isL u1 = false) (hu4 : ev_isL u4 = false) ⦃x : Nat × wq_F⦄ (h : dk_159_4 n g F v2 v3 = some x), wq (wq_cf (d + 0)) (ev_un al_mX6_land.2.2.2.2) none 4 [36893488147419103243, u1, v2, v3, u4] [] xm_sh F 0 0 (wkN xm_T xm_sh x)
  | 0 => by
    intro u1 u4 F hT v2 hv2 v3 hv3 hu1 hu4 x h
    cases h
  | g + 1 => dk_159_4bT (dk_159_4T g)
/-- X6_land -/
def dk_159 (n : Nat) (F : wq_F) (a0 : Nat) : Option (Nat × wq_F) :=
  dk_159_4 n n F a0 0
theorem dkT_159 {d n : Nat} {F : wq_F} (hT : xm_T F) {a0 : Nat} (ha0 : a0 < 4294967296) {x : Nat × wq_F} (h : dk_159 n F a0 = some x) : mq (d + 0 + 1) 159 [36893488147419103243, a0] xm_sh F (wkN xm_T xm_sh x) := by
  have e : ev_ent [36893488147419103243, a0] = [36893488147419103243, a0] := by
    show 36893488147419103243 :: ev_ent [a0] = _
    rw [wm_entI ha0]
    rfl
  refine mq_of (maxL := 5) (rt := none) (code := (ev_un al_mX6_land.2.2.2.2)) (L := [36893488147419103243, a0, 73786976294838206464, 73786976294838206464, 73786976294838206464]) rfl (by rw [e]; exact Nat.le_of_ble_eq_true rfl) (by rw [e]; rfl) ?_
  unfold dk_159 at h
  refine wq_iload_n rfl rfl ha0 ?_
  refine wq_istore_n rfl ha0 (Nat.le_of_ble_eq_true rfl) (Or.inr ⟨_, rfl, (wq_notL ha0)⟩) (L' := [36893488147419103243, a0, a0, 73786976294838206464, 73786976294838206464]) rfl ?_
  refine wq_iconst rfl rfl ?_
  refine wq_istore_n rfl (wm_zlt (by decide)) (Nat.le_of_ble_eq_true rfl) (Or.inr ⟨_, rfl, (wq_notL ha0)⟩) (L' := [36893488147419103243, a0, a0, 0, 73786976294838206464]) rfl ?_
  exact dk_159_4T n hT ha0 (wm_zlt (by decide)) (wq_notL ha0) rfl h
/-- X10_assignFollows -/
def dk_185 (F : wq_F) : Option (Nat × wq_F) :=
  (dk_74 F (F 57 3)).bind fun y1 =>
  (dk_186 y1.2 y1.1).bind fun y5 =>
  if y5.1 = 61 then
    (dk_186 y5.2 ((y1.1 + 1) % 4294967296)).bind fun y10 =>
    if y10.1 = 61 then
      some (0, y10.2)
    else
      some (1, y10.2)
  else
    some (0, y5.2)
theorem dkT_185 {d : Nat} {F : wq_F} (hT : xm_T F) {x : Nat × wq_F} (h : dk_185 F = some x) : mq (d + 2 + 1) 185 [36893488147419103289] xm_sh F (wkZ xm_T xm_sh x) := by
  have e : ev_ent [36893488147419103289] = [36893488147419103289] := by
    rfl
  refine mq_of (maxL := 2) (rt := (some .boolean)) (code := (ev_un al_mX10_assignFollows.2.2.2.2)) (L := [36893488147419103289, 73786976294838206464]) rfl (by rw [e]; exact Nat.le_of_ble_eq_true rfl) (by rw [e]; rfl) ?_
  unfold dk_185 at h
  refine wq_aload_n rfl rfl rfl ?_
  refine wq_aload_n rfl rfl rfl ?_
  refine xm_getI (q := 57) rfl rfl (by decide) (by decide) ?_
  obtain ⟨y1, e2, h⟩ := od_bindE h
  refine wd_virtI (q := 57) (y := y1) (as := [36893488147419103289, F 57 3]) rfl rfl rfl (by decide) (Nat.le_of_ble_eq_true rfl) (Nat.le_of_ble_eq_true rfl) rfl (Nat.le_of_ble_eq_true rfl) rfl (dkT_74 hT (hT.i (k := 57) 3 rfl (by decide) rfl) e2) (fun p3 T4 => ?_)
  refine wq_istore_n rfl p3 (Nat.le_of_ble_eq_true rfl) (Or.inr ⟨_, rfl, rfl⟩) (L' := [36893488147419103289, y1.1]) rfl ?_
  refine wq_aload_n rfl rfl rfl ?_
  refine wq_iload_n rfl rfl p3 ?_
  obtain ⟨y5, e6, h⟩ := od_bindE h
  refine wd_virtI (q := 57) (y := y5) (as := [36893488147419103289, y1.1]) rfl rfl rfl (by decide) (Nat.le_of_ble_eq_true rfl) (Nat.le_of_ble_eq_true rfl) rfl (Nat.le_of_ble_eq_true rfl) rfl (dkT_186 T4 p3 e6) (fun p7 T8 => ?_)
  refine wq_bipush rfl rfl ?_
  refine wq_ic_ne rfl rfl p7 (by decide) (fun h9 => ?_) (fun h9 => ?_)
  · replace h := od_neg h h9
    refine wq_iconst rfl rfl ?_
    exact wq_iret rfl (wm_zlt (by decide)) (Nat.blt_eq.mpr (by decide)) (wkOZ h T8 (by decide))
  · replace h := od_pos h h9
    refine wq_aload_n rfl rfl rfl ?_
    refine wq_iload_n rfl rfl p3 ?_
    refine wq_iconst rfl rfl ?_
    refine wq_iaddZ rfl p3 (wm_zlt (by decide)) (z := (y1.1 + 1) % 4294967296) rfl ?_
    obtain ⟨y10, e11, h⟩ := od_bindE h
    refine wd_virtI (q := 57) (y := y10) (as := [36893488147419103289, (y1.1 + 1) % 4294967296]) rfl rfl rfl (by decide) (Nat.le_of_ble_eq_true rfl) (Nat.le_of_ble_eq_true rfl) rfl (Nat.le_of_ble_eq_true rfl) rfl (dkT_186 T8 (Nat.mod_lt _ (by decide)) e11) (fun p12 T13 => ?_)
    refine wq_bipush rfl rfl ?_
    refine wq_ic_eq rfl rfl p12 (by decide) (fun h14 => ?_) (fun h14 => ?_)
    · replace h := od_pos h h14
      refine wq_iconst rfl rfl ?_
      exact wq_iret rfl (wm_zlt (by decide)) (Nat.blt_eq.mpr (by decide)) (wkOZ h T13 (by decide))
    · replace h := od_neg h h14
      refine wq_iconst rfl rfl ?_
      refine wq_goto rfl rfl ?_
      exact wq_iret rfl (wm_zlt (by decide)) (Nat.blt_eq.mpr (by decide)) (wkOZ h T13 (by decide))
/-- X4_keyName -/
def dk_135 (F : wq_F) : Option (Nat × wq_F) :=
  if (F 57 4) = 2 then
    (dk_112 F 4 (ev_oL2i (F 57 8)) (F 57 6) 1).bind fun y6 =>
    some (0, y6.2)
  else
    (dk_109 F 2).bind fun y2 =>
    some (0, y2.2)
theorem dkT_135 {d : Nat} {F : wq_F} (hT : xm_T F) {x : Nat × wq_F} (h : dk_135 F = some x) : mq (d + 3 + 1) 135 [36893488147419103288] xm_sh F (wkN xm_T xm_sh x) := by
  have e : ev_ent [36893488147419103288] = [36893488147419103288] := by
    rfl
  refine mq_of (maxL := 1) (rt := none) (code := (ev_un al_mX4_keyName.2.2.2.2)) (L := [36893488147419103288]) rfl (by rw [e]; exact Nat.le_of_ble_eq_true rfl) (by rw [e]; rfl) ?_
  unfold dk_135 at h
  refine wq_aload_n rfl rfl rfl ?_
  refine xm_getR (v := 36893488147419103289) (q := 56) rfl rfl (by decide) (by decide) (hT.r (k := 56) 0 56 rfl (by decide) rfl) ?_
  refine xm_getI (q := 57) rfl rfl (by decide) (by decide) ?_
  refine wq_iconst rfl rfl ?_
  refine wq_ic_ne rfl rfl (hT.i (k := 57) 4 rfl (by decide) rfl) (by decide) (fun h1 => ?_) (fun h1 => ?_)
  · replace h := od_neg h h1
    refine wq_aload_n rfl rfl rfl ?_
    refine wq_iconst rfl rfl ?_
    obtain ⟨y2, e3, h⟩ := od_bindE h
    refine wd_virtN (q := 56) (y := y2) (as := [36893488147419103288, 2]) rfl rfl rfl (by decide) (Nat.le_of_ble_eq_true rfl) (Nat.le_of_ble_eq_true rfl) rfl (Nat.le_of_ble_eq_true rfl) rfl (dkT_109 hT (by decide) e3) (fun T5 => ?_)
    exact wq_ret rfl (wkON h T5)
  · replace h := od_pos h h1
    refine wq_aload_n rfl rfl rfl ?_
    refine wq_iconst rfl rfl ?_
    refine wq_aload_n rfl rfl rfl ?_
    refine xm_getR (v := 36893488147419103289) (q := 56) rfl rfl (by decide) (by decide) (hT.r (k := 56) 0 56 rfl (by decide) rfl) ?_
    refine xm_getI (q := 57) rfl rfl (by decide) (by decide) ?_
    refine wq_l2i rfl (hT.l (k := 57) 8 rfl (by decide) rfl) ?_
    refine wq_aload_n rfl rfl rfl ?_
    refine xm_getR (v := 36893488147419103289) (q := 56) rfl rfl (by decide) (by decide) (hT.r (k := 56) 0 56 rfl (by decide) rfl) ?_
    refine xm_getI (q := 57) rfl rfl (by decide) (by decide) ?_
    refine wq_iconst rfl rfl ?_
    obtain ⟨y6, e7, h⟩ := od_bindE h
    refine wd_virtN (q := 56) (y := y6) (as := [36893488147419103288, 4, ev_oL2i (F 57 8), F 57 6, 1]) rfl rfl rfl (by decide) (Nat.le_of_ble_eq_true rfl) (Nat.le_of_ble_eq_true rfl) rfl (Nat.le_of_ble_eq_true rfl) rfl (dkT_112 hT (by decide) (Nat.mod_lt _ (by decide)) (hT.i (k := 57) 6 rfl (by decide) rfl) (wm_zlt (by decide)) e7) (fun T9 => ?_)
    refine wq_goto rfl rfl ?_
    exact wq_ret rfl (wkON h T9)
/-- X4_separator -/
def dk_152 (n : Nat) (F : wq_F) : Option (Nat × wq_F) :=
  if (F 57 4) = 59 then
    (dk_77 n F).bind fun y2 =>
    some (0, y2.2)
  else
    if (F 57 4) = 57 then
      (dk_77 n F).bind fun y12 =>
      some (0, y12.2)
    else
      if (F 57 4) = 54 then
        some (0, F)
      else
        (dk_109 F 2).bind fun y8 =>
        some (0, y8.2)
theorem dkT_152 {d n : Nat} {F : wq_F} (hT : xm_T F) {x : Nat × wq_F} (h : dk_152 n F = some x) : mq (d + 6 + 1) 152 [36893488147419103288] xm_sh F (wkN xm_T xm_sh x) := by
  have e : ev_ent [36893488147419103288] = [36893488147419103288] := by
    rfl
  refine mq_of (maxL := 1) (rt := none) (code := (ev_un al_mX4_separator.2.2.2.2)) (L := [36893488147419103288]) rfl (by rw [e]; exact Nat.le_of_ble_eq_true rfl) (by rw [e]; rfl) ?_
  unfold dk_152 at h
  refine wq_aload_n rfl rfl rfl ?_
  refine xm_getR (v := 36893488147419103289) (q := 56) rfl rfl (by decide) (by decide) (hT.r (k := 56) 0 56 rfl (by decide) rfl) ?_
  refine xm_getI (q := 57) rfl rfl (by decide) (by decide) ?_
  refine wq_bipush rfl rfl ?_
  refine wq_ic_eq rfl rfl (hT.i (k := 57) 4 rfl (by decide) rfl) (by decide) (fun h1 => ?_) (fun h1 => ?_)
  · replace h := od_pos h h1
    refine wq_aload_n rfl rfl rfl ?_
    obtain ⟨y2, e3, h⟩ := od_bindE h
    refine wd_virtN (q := 56) (y := y2) (as := [36893488147419103288]) rfl rfl rfl (by decide) (Nat.le_of_ble_eq_true rfl) (Nat.le_of_ble_eq_true rfl) rfl (Nat.le_of_ble_eq_true rfl) rfl (dkT_77 hT e3) (fun T5 => ?_)
    refine wq_goto rfl rfl ?_
    exact wq_ret rfl (wkON h T5)
  · replace h := od_neg h h1
    refine wq_aload_n rfl rfl rfl ?_
    refine xm_getR (v := 36893488147419103289) (q := 56) rfl rfl (by decide) (by decide) (hT.r (k := 56) 0 56 rfl (by decide) rfl) ?_
    refine xm_getI (q := 57) rfl rfl (by decide) (by decide) ?_
    refine wq_bipush rfl rfl ?_
    refine wq_ic_ne rfl rfl (hT.i (k := 57) 4 rfl (by decide) rfl) (by decide) (fun h6 => ?_) (fun h6 => ?_)
    · replace h := od_neg h h6
      refine wq_aload_n rfl rfl rfl ?_
      refine xm_getR (v := 36893488147419103289) (q := 56) rfl rfl (by decide) (by decide) (hT.r (k := 56) 0 56 rfl (by decide) rfl) ?_
      refine xm_getI (q := 57) rfl rfl (by decide) (by decide) ?_
      refine wq_bipush rfl rfl ?_
      refine wq_ic_eq rfl rfl (hT.i (k := 57) 4 rfl (by decide) rfl) (by decide) (fun h7 => ?_) (fun h7 => ?_)
      · replace h := od_pos h h7
        exact wq_ret rfl (wkON h hT)
      · replace h := od_neg h h7
        refine wq_aload_n rfl rfl rfl ?_
        refine wq_iconst rfl rfl ?_
        obtain ⟨y8, e9, h⟩ := od_bindE h
        refine wd_virtN (q := 56) (y := y8) (as := [36893488147419103288, 2]) rfl rfl rfl (by decide) (Nat.le_of_ble_eq_true rfl) (Nat.le_of_ble_eq_true rfl) rfl (Nat.le_of_ble_eq_true rfl) rfl (dkT_109 hT (by decide) e9) (fun T11 => ?_)
        exact wq_ret rfl (wkON h T11)
    · replace h := od_pos h h6
      refine wq_aload_n rfl rfl rfl ?_
      obtain ⟨y12, e13, h⟩ := od_bindE h
      refine wd_virtN (q := 56) (y := y12) (as := [36893488147419103288]) rfl rfl rfl (by decide) (Nat.le_of_ble_eq_true rfl) (Nat.le_of_ble_eq_true rfl) rfl (Nat.le_of_ble_eq_true rfl) rfl (dkT_77 hT e13) (fun T15 => ?_)
      refine wq_goto rfl rfl ?_
      exact wq_ret rfl (wkON h T15)
/-- X6_wantOfLast -/
def dk_158 (F : wq_F) (a0 : Nat) : Option (Nat × wq_F) :=
  if 0 < (F 11 4) ∧ (F 11 4) < 2147483648 then
    od_let (((F 11 4) + (4294967296 - 1)) % 4294967296) fun y2 =>
    od_g (y2 < 10000) <|
    od_up F 14 y2 a0 fun F6 =>
    some (0, F6)
  else
    some (0, F)
theorem dkT_158 {d : Nat} {F : wq_F} (hT : xm_T F) {a0 : Nat} (ha0 : a0 < 4294967296) {x : Nat × wq_F} (h : dk_158 F a0 = some x) : mq (d + 0 + 1) 158 [36893488147419103243, a0] xm_sh F (wkN xm_T xm_sh x) := by
  have e : ev_ent [36893488147419103243, a0] = [36893488147419103243, a0] := by
    show 36893488147419103243 :: ev_ent [a0] = _
    rw [wm_entI ha0]
    rfl
  refine mq_of (maxL := 2) (rt := none) (code := (ev_un al_mX6_wantOfLast.2.2.2.2)) (L := [36893488147419103243, a0]) rfl (by rw [e]; exact Nat.le_of_ble_eq_true rfl) (by rw [e]; rfl) ?_
  unfold dk_158 at h
  refine wq_aload_n rfl rfl rfl ?_
  refine xm_getI (q := 11) rfl rfl (by decide) (by decide) ?_
  refine wq_if_le rfl rfl (hT.i (k := 11) 4 rfl (by decide) rfl) (fun h1 => ?_) (fun h1 => ?_)
  · replace h := od_neg h h1
    exact wq_ret rfl (wkON h hT)
  · replace h := od_pos h h1
    refine wq_aload_n rfl rfl rfl ?_
    refine xm_getR (v := 36893488147419103246) (q := 11) rfl rfl (by decide) (by decide) (hT.r (k := 11) 2 13 rfl (by decide) rfl) ?_
    refine wq_aload_n rfl rfl rfl ?_
    refine xm_getI (q := 11) rfl rfl (by decide) (by decide) ?_
    refine wq_iconst rfl rfl ?_
    refine wq_isubZ rfl (hT.i (k := 11) 4 rfl (by decide) rfl) (wm_zlt (by decide)) (z := ((F 11 4) + (4294967296 - 1)) % 4294967296) rfl ?_
    obtain ⟨y2, e3, h⟩ := od_letE h
    refine wq_top e3.symm ?_
    have p4 : y2 < 4294967296 := wd_lt e3 (Nat.mod_lt _ (by decide))
    refine wq_iload_n rfl rfl ha0 ?_
    obtain ⟨g5, h⟩ := od_gE h
    obtain ⟨F6, e7, h⟩ := od_upE h
    refine wd_iastore (q := 14) (n := 10000) rfl rfl (by decide) g5 (by decide) ha0 e7 ?_
    have T8 : xm_T F6 := wd_T e7 (hT.ua (k := 14) (kd := 1000) (n := 10000) (i := y2) (v := a0) rfl (by decide) g5 (show a0 < 4294967296 from ha0))
    exact wq_ret rfl (wkON h T8)
def dk_170_29b (n : Nat) (r29 : wq_F → Nat → Nat → Nat → Option (Nat × wq_F)) (F : wq_F) (v1 : Nat) (v2 : Nat) (v4 : Nat) : Option (Nat × wq_F) :=
  od_g (v1 < 24) <|
  if ev_s v4 < ev_s (F 63 v1) then
    some (4294967295, F)
  else
    od_g (v4 < 1200) <|
    if (F 60 v4) = v2 then
      od_g (v4 < 1200) <|
      if (F 61 v4) = 4294967295 then
        od_let ((v4 + 4294967295) % 4294967296) fun y10 =>
        r29 F v1 v2 y10
      else
        od_g (v4 < 1200) <|
        some (F 61 v4, F)
    else
      od_let ((v4 + 4294967295) % 4294967296) fun y5 =>
      r29 F v1 v2 y5
theorem dk_170_29bT {d n : Nat} {r29 : wq_F → Nat → Nat → Nat → Option (Nat × wq_F)} (hr29 : ∀ ⦃u3 : Nat⦄ ⦃F : wq_F⦄ (hT : xm_T F) ⦃v1 : Nat⦄ (hv1 : v1 < 4294967296) ⦃v2 : Nat⦄ (hv2 : v2 < 4294967296) ⦃v4 : Nat⦄ (hv4 : v4 < 4294967296) (hu3 : ev_isL u3 = false) ⦃x : Nat × wq_F⦄ (h : r29 F v1 v2 v4 = some x), wq (wq_cf (d + 0)) (ev_un al_mX7_slotOf.2.2.2.2) (some .int) 29 [36893488147419103291, v1, v2, u3, v4] [] xm_sh F 0 0 (wkI xm_T xm_sh x)) : ∀ ⦃u3 : Nat⦄ ⦃F : wq_F⦄ (hT : xm_T F) ⦃v1 : Nat⦄ (hv1 : v1 < 4294967296) ⦃v2 : Nat⦄ (hv2 : v2 < 4294967296) ⦃v4 : Nat⦄ (hv4 : v4 < 4294967296) (hu3 : ev_isL u3 = false) ⦃x : Nat × wq_F⦄ (h : dk_170_29b n r29 F v1 v2 v4 = some x), wq (wq_cf (d + 0)) (ev_un al_mX7_slotOf.2.2.2.2) (some .int) 29 [36893488147419103291, v1, v2, u3, v4] [] xm_sh F 0 0 (wkI xm_T xm_sh x) := by
  intro u3 F hT v1 hv1 v2 hv2 v4 hv4 hu3 x h
  unfold dk_170_29b at h
  refine wq_iload rfl rfl hv4 ?_
  refine wq_aload_n rfl rfl rfl ?_
  refine xm_getR (v := 36893488147419103295) (q := 59) rfl rfl (by decide) (by decide) (hT.r (k := 59) 5 62 rfl (by decide) rfl) ?_
  refine wq_iload_n rfl rfl hv1 ?_
  obtain ⟨g1, h⟩ := od_gE h
  refine wq_iaload (q := 63) (n := 24) rfl rfl (by decide) g1 (by decide) ?_
  refine wq_ic_lt rfl rfl hv4 (hT.ai (k := 63) rfl g1) (fun h2 => ?_) (fun h2 => ?_)
  · replace h := od_pos h h2
    refine wq_iconst rfl rfl ?_
    exact wq_iret rfl (by decide) rfl (wkOI h hT (by decide))
  · replace h := od_neg h (Nat.not_lt.mpr h2)
    refine wq_aload_n rfl rfl rfl ?_
    refine xm_getR (v := 36893488147419103292) (q := 59) rfl rfl (by decide) (by decide) (hT.r (k := 59) 1 59 rfl (by decide) rfl) ?_
    refine wq_iload rfl rfl hv4 ?_
    obtain ⟨g3, h⟩ := od_gE h
    refine wq_iaload (q := 60) (n := 1200) rfl rfl (by decide) g3 (by decide) ?_
    refine wq_iload_n rfl rfl hv2 ?_
    refine wq_ic_ne rfl rfl (hT.ai (k := 60) rfl g3) hv2 (fun h4 => ?_) (fun h4 => ?_)
    · replace h := od_neg h h4
      obtain ⟨y5, e6, h⟩ := od_letE h
      have p7 : y5 < 4294967296 := wd_lt e6 (Nat.mod_lt _ (by decide))
      refine wq_iincZ rfl rfl hv4 (Or.inr ⟨_, rfl, hu3⟩) rfl (z := y5) e6.symm (L' := [36893488147419103291, v1, v2, u3, y5]) rfl ?_
      refine wq_goto rfl rfl ?_
      exact hr29 hT hv1 hv2 p7 hu3 h
    · replace h := od_pos h h4
      refine wq_aload_n rfl rfl rfl ?_
      refine xm_getR (v := 36893488147419103293) (q := 59) rfl rfl (by decide) (by decide) (hT.r (k := 59) 2 60 rfl (by decide) rfl) ?_
      refine wq_iload rfl rfl hv4 ?_
      obtain ⟨g8, h⟩ := od_gE h
      refine wq_iaload (q := 61) (n := 1200) rfl rfl (by decide) g8 (by decide) ?_
      refine wq_iconst rfl rfl ?_
      refine wq_ic_eq rfl rfl (hT.ai (k := 61) rfl g8) (by decide) (fun h9 => ?_) (fun h9 => ?_)
      · replace h := od_pos h h9
        obtain ⟨y10, e11, h⟩ := od_letE h
        have p12 : y10 < 4294967296 := wd_lt e11 (Nat.mod_lt _ (by decide))
        refine wq_iincZ rfl rfl hv4 (Or.inr ⟨_, rfl, hu3⟩) rfl (z := y10) e11.symm (L' := [36893488147419103291, v1, v2, u3, y10]) rfl ?_
        refine wq_goto rfl rfl ?_
        exact hr29 hT hv1 hv2 p12 hu3 h
      · replace h := od_neg h h9
        refine wq_aload_n rfl rfl rfl ?_
        refine xm_getR (v := 36893488147419103293) (q := 59) rfl rfl (by decide) (by decide) (hT.r (k := 59) 2 60 rfl (by decide) rfl) ?_
        refine wq_iload rfl rfl hv4 ?_
        obtain ⟨g13, h⟩ := od_gE h
        refine wq_iaload (q := 61) (n := 1200) rfl rfl (by decide) g13 (by decide) ?_
        exact wq_iret rfl (hT.ai (k := 61) rfl g13) rfl (wkOI h hT (hT.ai (k := 61) rfl g13))
def dk_170_29 (n : Nat) : Nat → wq_F → Nat → Nat → Nat → Option (Nat × wq_F)
  | 0 => fun _ _ _ _ => none
  | g + 1 => dk_170_29b n (dk_170_29 n g)
theorem dk_170_29T {d n : Nat} : ∀ g : Nat, ∀ ⦃u3 : Nat⦄ ⦃F : wq_F⦄ (hT : xm_T F) ⦃v1 : Nat⦄ (hv1 : v1 < 4294967296) ⦃v2 : Nat⦄ (hv2 : v2 < 4294967296) ⦃v4 : Nat⦄ (hv4 : v4 < 4294967296) (hu3 : ev_isL u3 = false) ⦃x : Nat × wq_F⦄ (h : dk_170_29 n g F v1 v2 v4 = some x), wq (wq_cf (d + 0)) (ev_un al_mX7_slotOf.2.2.2.2) (some .int) 29 [36893488147419103291, v1, v2, u3, v4] [] xm_sh F 0 0 (wkI xm_T xm_sh x)
  | 0 => by
    intro u3 F hT v1 hv1 v2 hv2 v4 hv4 hu3 x h
    cases h
  | g + 1 => dk_170_29bT (dk_170_29T g)
/-- X7_slotOf -/
def dk_170 (n : Nat) (F : wq_F) (a0 : Nat) (a1 : Nat) : Option (Nat × wq_F) :=
  if a0 = (F 59 8) then
    od_let (((F 59 3) + (4294967296 - 1)) % 4294967296) fun y6 =>
    dk_170_29 n n F a0 a1 y6
  else
    od_g ((a0 + 1) % 4294967296 < 24) <|
    od_let (((F 63 ((a0 + 1) % 4294967296)) + (4294967296 - 1)) % 4294967296) fun y3 =>
    dk_170_29 n n F a0 a1 y3
theorem dkT_170 {d n : Nat} {F : wq_F} (hT : xm_T F) {a0 : Nat} (ha0 : a0 < 4294967296) {a1 : Nat} (ha1 : a1 < 4294967296) {x : Nat × wq_F} (h : dk_170 n F a0 a1 = some x) : mq (d + 0 + 1) 170 [36893488147419103291, a0, a1] xm_sh F (wkI xm_T xm_sh x) := by
  have e : ev_ent [36893488147419103291, a0, a1] = [36893488147419103291, a0, a1] := by
    show 36893488147419103291 :: ev_ent [a0, a1] = _
    rw [wm_entI ha0, wm_entI ha1]
    rfl
  refine mq_of (maxL := 5) (rt := (some .int)) (code := (ev_un al_mX7_slotOf.2.2.2.2)) (L := [36893488147419103291, a0, a1, 73786976294838206464, 73786976294838206464]) rfl (by rw [e]; exact Nat.le_of_ble_eq_true rfl) (by rw [e]; rfl) ?_
  unfold dk_170 at h
  refine wq_iload_n rfl rfl ha0 ?_
  refine wq_aload_n rfl rfl rfl ?_
  refine xm_getI (q := 59) rfl rfl (by decide) (by decide) ?_
  refine wq_ic_ne rfl rfl ha0 (hT.i (k := 59) 8 rfl (by decide) rfl) (fun h1 => ?_) (fun h1 => ?_)
  · replace h := od_neg h h1
    refine wq_aload_n rfl rfl rfl ?_
    refine xm_getR (v := 36893488147419103295) (q := 59) rfl rfl (by decide) (by decide) (hT.r (k := 59) 5 62 rfl (by decide) rfl) ?_
    refine wq_iload_n rfl rfl ha0 ?_
    refine wq_iconst rfl rfl ?_
    refine wq_iaddZ rfl ha0 (wm_zlt (by decide)) (z := (a0 + 1) % 4294967296) rfl ?_
    obtain ⟨g2, h⟩ := od_gE h
    refine wq_iaload (q := 63) (n := 24) rfl rfl (by decide) g2 (by decide) ?_
    refine wq_istore_n rfl (hT.ai (k := 63) rfl g2) (Nat.le_of_ble_eq_true rfl) (Or.inr ⟨_, rfl, (wq_notL ha1)⟩) (L' := [36893488147419103291, a0, a1, F 63 ((a0 + 1) % 4294967296), 73786976294838206464]) rfl ?_
    refine wq_iload_n rfl rfl (hT.ai (k := 63) rfl g2) ?_
    refine wq_iconst rfl rfl ?_
    refine wq_isubZ rfl (hT.ai (k := 63) rfl g2) (wm_zlt (by decide)) (z := ((F 63 ((a0 + 1) % 4294967296)) + (4294967296 - 1)) % 4294967296) rfl ?_
    obtain ⟨y3, e4, h⟩ := od_letE h
    refine wq_top e4.symm ?_
    have p5 : y3 < 4294967296 := wd_lt e4 (Nat.mod_lt _ (by decide))
    refine wq_istore rfl p5 (Nat.le_of_ble_eq_true rfl) (Or.inr ⟨_, rfl, (wq_notL (hT.ai (k := 63) rfl g2))⟩) (L' := [36893488147419103291, a0, a1, F 63 ((a0 + 1) % 4294967296), y3]) rfl ?_
    exact dk_170_29T n hT ha0 ha1 p5 (wq_notL (hT.ai (k := 63) rfl g2)) h
  · replace h := od_pos h h1
    refine wq_aload_n rfl rfl rfl ?_
    refine xm_getI (q := 59) rfl rfl (by decide) (by decide) ?_
    refine wq_goto rfl rfl ?_
    refine wq_istore_n rfl (hT.i (k := 59) 3 rfl (by decide) rfl) (Nat.le_of_ble_eq_true rfl) (Or.inr ⟨_, rfl, (wq_notL ha1)⟩) (L' := [36893488147419103291, a0, a1, F 59 3, 73786976294838206464]) rfl ?_
    refine wq_iload_n rfl rfl (hT.i (k := 59) 3 rfl (by decide) rfl) ?_
    refine wq_iconst rfl rfl ?_
    refine wq_isubZ rfl (hT.i (k := 59) 3 rfl (by decide) rfl) (wm_zlt (by decide)) (z := ((F 59 3) + (4294967296 - 1)) % 4294967296) rfl ?_
    obtain ⟨y6, e7, h⟩ := od_letE h
    refine wq_top e7.symm ?_
    have p8 : y6 < 4294967296 := wd_lt e7 (Nat.mod_lt _ (by decide))
    refine wq_istore rfl p8 (Nat.le_of_ble_eq_true rfl) (Or.inr ⟨_, rfl, (wq_notL (hT.i (k := 59) 3 rfl (by decide) rfl))⟩) (L' := [36893488147419103291, a0, a1, F 59 3, y6]) rfl ?_
    exact dk_170_29T n hT ha0 ha1 p8 (wq_notL (hT.i (k := 59) 3 rfl (by decide) rfl)) h
def dk_171_2b (n : Nat) (r2 : wq_F → Nat → Nat → Nat → Option (Nat × wq_F)) (F : wq_F) (v1 : Nat) (v2 : Nat) (v3 : Nat) : Option (Nat × wq_F) :=
  od_g (v1 < 50) <|
  if ev_s v3 < ev_s (F 20 v1) then
    od_let (((ev_oMul v1 30) + v3) % 4294967296) fun y3 =>
    od_g (y3 < 1500) <|
    if (F 66 y3) = v2 then
      some (v3, F)
    else
      od_let ((v3 + 1) % 4294967296) fun y8 =>
      r2 F v1 v2 y8
  else
    some (4294967295, F)
theorem dk_171_2bT {d n : Nat} {r2 : wq_F → Nat → Nat → Nat → Option (Nat × wq_F)} (hr2 : ∀ ⦃F : wq_F⦄ (hT : xm_T F) ⦃v1 : Nat⦄ (hv1 : v1 < 4294967296) ⦃v2 : Nat⦄ (hv2 : v2 < 4294967296) ⦃v3 : Nat⦄ (hv3 : v3 < 4294967296) ⦃x : Nat × wq_F⦄ (h : r2 F v1 v2 v3 = some x), wq (wq_cf (d + 0)) (ev_un al_mX7_capturedOf.2.2.2.2) (some .int) 2 [36893488147419103291, v1, v2, v3] [] xm_sh F 0 0 (wkI xm_T xm_sh x)) : ∀ ⦃F : wq_F⦄ (hT : xm_T F) ⦃v1 : Nat⦄ (hv1 : v1 < 4294967296) ⦃v2 : Nat⦄ (hv2 : v2 < 4294967296) ⦃v3 : Nat⦄ (hv3 : v3 < 4294967296) ⦃x : Nat × wq_F⦄ (h : dk_171_2b n r2 F v1 v2 v3 = some x), wq (wq_cf (d + 0)) (ev_un al_mX7_capturedOf.2.2.2.2) (some .int) 2 [36893488147419103291, v1, v2, v3] [] xm_sh F 0 0 (wkI xm_T xm_sh x) := by
  intro F hT v1 hv1 v2 hv2 v3 hv3 x h
  unfold dk_171_2b at h
  refine wq_iload_n rfl rfl hv3 ?_
  refine wq_aload_n rfl rfl rfl ?_
  refine xm_getR (v := 36893488147419103243) (q := 59) rfl rfl (by decide) (by decide) (hT.r (k := 59) 0 10 rfl (by decide) rfl) ?_
  refine xm_getR (v := 36893488147419103252) (q := 11) rfl rfl (by decide) (by decide) (hT.r (k := 11) 10 19 rfl (by decide) rfl) ?_
  refine wq_iload_n rfl rfl hv1 ?_
  obtain ⟨g1, h⟩ := od_gE h
  refine wq_iaload (q := 20) (n := 50) rfl rfl (by decide) g1 (by decide) ?_
  refine wq_ic_ge rfl rfl hv3 (hT.ai (k := 20) rfl g1) (fun h2 => ?_) (fun h2 => ?_)
  · replace h := od_neg h (Nat.not_lt.mpr h2)
    refine wq_iconst rfl rfl ?_
    exact wq_iret rfl (by decide) rfl (wkOI h hT (by decide))
  · replace h := od_pos h h2
    refine wq_aload_n rfl rfl rfl ?_
    refine xm_getR (v := 36893488147419103298) (q := 59) rfl rfl (by decide) (by decide) (hT.r (k := 59) 9 65 rfl (by decide) rfl) ?_
    refine wq_iload_n rfl rfl hv1 ?_
    refine wq_bipush rfl rfl ?_
    refine wq_imul rfl hv1 (by decide) ?_
    refine wq_iload_n rfl rfl hv3 ?_
    refine wq_iaddZ rfl (Nat.mod_lt _ (by decide)) hv3 (z := ((ev_oMul v1 30) + v3) % 4294967296) rfl ?_
    obtain ⟨y3, e4, h⟩ := od_letE h
    refine wq_top e4.symm ?_
    have p5 : y3 < 4294967296 := wd_lt e4 (Nat.mod_lt _ (by decide))
    obtain ⟨g6, h⟩ := od_gE h
    refine wq_iaload (q := 66) (n := 1500) rfl rfl (by decide) g6 (by decide) ?_
    refine wq_iload_n rfl rfl hv2 ?_
    refine wq_ic_ne rfl rfl (hT.ai (k := 66) rfl g6) hv2 (fun h7 => ?_) (fun h7 => ?_)
    · replace h := od_neg h h7
      obtain ⟨y8, e9, h⟩ := od_letE h
      have p10 : y8 < 4294967296 := wd_lt e9 (Nat.mod_lt _ (by decide))
      refine wq_iincZ rfl rfl hv3 (Or.inr ⟨_, rfl, (wq_notL hv2)⟩) rfl (z := y8) e9.symm (L' := [36893488147419103291, v1, v2, y8]) rfl ?_
      refine wq_goto rfl rfl ?_
      exact hr2 hT hv1 hv2 p10 h
    · replace h := od_pos h h7
      refine wq_iload_n rfl rfl hv3 ?_
      exact wq_iret rfl hv3 rfl (wkOI h hT hv3)
def dk_171_2 (n : Nat) : Nat → wq_F → Nat → Nat → Nat → Option (Nat × wq_F)
  | 0 => fun _ _ _ _ => none
  | g + 1 => dk_171_2b n (dk_171_2 n g)
theorem dk_171_2T {d n : Nat} : ∀ g : Nat, ∀ ⦃F : wq_F⦄ (hT : xm_T F) ⦃v1 : Nat⦄ (hv1 : v1 < 4294967296) ⦃v2 : Nat⦄ (hv2 : v2 < 4294967296) ⦃v3 : Nat⦄ (hv3 : v3 < 4294967296) ⦃x : Nat × wq_F⦄ (h : dk_171_2 n g F v1 v2 v3 = some x), wq (wq_cf (d + 0)) (ev_un al_mX7_capturedOf.2.2.2.2) (some .int) 2 [36893488147419103291, v1, v2, v3] [] xm_sh F 0 0 (wkI xm_T xm_sh x)
  | 0 => by
    intro F hT v1 hv1 v2 hv2 v3 hv3 x h
    cases h
  | g + 1 => dk_171_2bT (dk_171_2T g)
/-- X7_capturedOf -/
def dk_171 (n : Nat) (F : wq_F) (a0 : Nat) (a1 : Nat) : Option (Nat × wq_F) :=
  dk_171_2 n n F a0 a1 0
theorem dkT_171 {d n : Nat} {F : wq_F} (hT : xm_T F) {a0 : Nat} (ha0 : a0 < 4294967296) {a1 : Nat} (ha1 : a1 < 4294967296) {x : Nat × wq_F} (h : dk_171 n F a0 a1 = some x) : mq (d + 0 + 1) 171 [36893488147419103291, a0, a1] xm_sh F (wkI xm_T xm_sh x) := by
  have e : ev_ent [36893488147419103291, a0, a1] = [36893488147419103291, a0, a1] := by
    show 36893488147419103291 :: ev_ent [a0, a1] = _
    rw [wm_entI ha0, wm_entI ha1]
    rfl
  refine mq_of (maxL := 4) (rt := (some .int)) (code := (ev_un al_mX7_capturedOf.2.2.2.2)) (L := [36893488147419103291, a0, a1, 73786976294838206464]) rfl (by rw [e]; exact Nat.le_of_ble_eq_true rfl) (by rw [e]; rfl) ?_
  unfold dk_171 at h
  refine wq_iconst rfl rfl ?_
  refine wq_istore_n rfl (wm_zlt (by decide)) (Nat.le_of_ble_eq_true rfl) (Or.inr ⟨_, rfl, (wq_notL ha1)⟩) (L' := [36893488147419103291, a0, a1, 0]) rfl ?_
  exact dk_171_2T n hT ha0 ha1 (wm_zlt (by decide)) h
def dk_169_200 (n : Nat) (F : wq_F) (v3 : Nat) (v4 : Nat) (s0 : Nat) : Option (Nat × wq_F) :=
  od_up F 59 10 s0 fun F1 =>
  if 2147483648 ≤ v3 then
    od_up F1 59 11 v4 fun F5 =>
    some (1, F5)
  else
    od_up F1 59 11 v3 fun F8 =>
    some (1, F8)
theorem dk_169_200T {d n : Nat} : ∀ ⦃u1 : Nat⦄ ⦃u2 : Nat⦄ ⦃u5 : Nat⦄ ⦃u6 : Nat⦄ ⦃u7 : Nat⦄ ⦃F : wq_F⦄ (hT : xm_T F) ⦃v3 : Nat⦄ (hv3 : v3 < 4294967296) ⦃v4 : Nat⦄ (hv4 : v4 < 4294967296) ⦃s0 : Nat⦄ (hs0 : s0 < 4294967296) (hu1 : ev_isL u1 = false) (hu2 : ev_isL u2 = false) (hu5 : ev_isL u5 = false) (hu6 : ev_isL u6 = false) (hu7 : ev_isL u7 = false) ⦃x : Nat × wq_F⦄ (h : dk_169_200 n F v3 v4 s0 = some x), wq (wq_cf (d + 1)) (ev_un al_mX7_resolve.2.2.2.2) (some .boolean) 200 [36893488147419103291, u1, u2, v3, v4, u5, u6, u7] [s0, 36893488147419103291] xm_sh F 0 0 (wkZ xm_T xm_sh x) := by
  intro u1 u2 u5 u6 u7 F hT v3 hv3 v4 hv4 s0 hs0 hu1 hu2 hu5 hu6 hu7 x h
  unfold dk_169_200 at h
  obtain ⟨F1, e2, h⟩ := od_upE h
  refine xmE_put (q := 59) rfl rfl (by decide) (by decide) (wq_I hs0) e2 ?_
  have T3 : xm_T F1 := wd_T e2 (hT.uf (k := 59) (f := 10) (c := 0) (v := s0) rfl (by decide) rfl (show s0 < 4294967296 from hs0))
  refine wq_aload_n rfl rfl rfl ?_
  refine wq_iload_n rfl rfl hv3 ?_
  refine wq_if_lt rfl rfl hv3 (fun h4 => ?_) (fun h4 => ?_)
  · replace h := od_pos h h4
    refine wq_iload rfl rfl hv4 ?_
    obtain ⟨F5, e6, h⟩ := od_upE h
    refine xmE_put (q := 59) rfl rfl (by decide) (by decide) (wq_I hv4) e6 ?_
    have T7 : xm_T F5 := wd_T e6 (T3.uf (k := 59) (f := 11) (c := 0) (v := v4) rfl (by decide) rfl (show v4 < 4294967296 from hv4))
    refine wq_iconst rfl rfl ?_
    exact wq_iret rfl (wm_zlt (by decide)) (Nat.blt_eq.mpr (by decide)) (wkOZ h T7 (by decide))
  · replace h := od_neg h (Nat.not_le.mpr h4)
    refine wq_iload_n rfl rfl hv3 ?_
    refine wq_goto rfl rfl ?_
    obtain ⟨F8, e9, h⟩ := od_upE h
    refine xmE_put (q := 59) rfl rfl (by decide) (by decide) (wq_I hv3) e9 ?_
    have T10 : xm_T F8 := wd_T e9 (T3.uf (k := 59) (f := 11) (c := 0) (v := v3) rfl (by decide) rfl (show v3 < 4294967296 from hv3))
    refine wq_iconst rfl rfl ?_
    exact wq_iret rfl (wm_zlt (by decide)) (Nat.blt_eq.mpr (by decide)) (wkOZ h T10 (by decide))
def dk_169_148 (n : Nat) (r82 : wq_F → Nat → Nat → Nat → Nat → Option (Nat × wq_F)) (F : wq_F) (v1 : Nat) (v5 : Nat) (v6 : Nat) (v7 : Nat) (s0 : Nat) (s1 : Nat) : Option (Nat × wq_F) :=
  od_g (s1 < 1500) <|
  od_up F 23 s1 s0 fun F2 =>
  od_let (((ev_oMul v6 30) + v7) % 4294967296) fun y5 =>
  od_g (y5 < 1500) <|
  od_up F2 66 y5 v1 fun F9 =>
  od_g (v6 < 50) <|
  od_let (((F9 20 v6) + 1) % 4294967296) fun y13 =>
  od_g (v6 < 50) <|
  od_up F9 20 v6 y13 fun F17 =>
  od_let ((v5 + 1) % 4294967296) fun y20 =>
  r82 F17 v1 4294967295 v7 y20
theorem dk_169_148T {d n : Nat} {r82 : wq_F → Nat → Nat → Nat → Nat → Option (Nat × wq_F)} (hr82 : ∀ ⦃u2 : Nat⦄ ⦃u6 : Nat⦄ ⦃u7 : Nat⦄ ⦃F : wq_F⦄ (hT : xm_T F) ⦃v1 : Nat⦄ (hv1 : v1 < 4294967296) ⦃v3 : Nat⦄ (hv3 : v3 < 4294967296) ⦃v4 : Nat⦄ (hv4 : v4 < 4294967296) ⦃v5 : Nat⦄ (hv5 : v5 < 4294967296) (hu2 : ev_isL u2 = false) (hu6 : ev_isL u6 = false) (hu7 : ev_isL u7 = false) ⦃x : Nat × wq_F⦄ (h : r82 F v1 v3 v4 v5 = some x), wq (wq_cf (d + 1)) (ev_un al_mX7_resolve.2.2.2.2) (some .boolean) 82 [36893488147419103291, v1, u2, v3, v4, v5, u6, u7] [] xm_sh F 0 0 (wkZ xm_T xm_sh x)) : ∀ ⦃u2 : Nat⦄ ⦃u3 : Nat⦄ ⦃u4 : Nat⦄ ⦃F : wq_F⦄ (hT : xm_T F) ⦃v1 : Nat⦄ (hv1 : v1 < 4294967296) ⦃v5 : Nat⦄ (hv5 : v5 < 4294967296) ⦃v6 : Nat⦄ (hv6 : v6 < 4294967296) ⦃v7 : Nat⦄ (hv7 : v7 < 4294967296) ⦃s0 : Nat⦄ (hs0 : s0 < 4294967296) ⦃s1 : Nat⦄ (hs1 : s1 < 4294967296) (hu2 : ev_isL u2 = false) (hu3 : ev_isL u3 = false) (hu4 : ev_isL u4 = false) ⦃x : Nat × wq_F⦄ (h : dk_169_148 n r82 F v1 v5 v6 v7 s0 s1 = some x), wq (wq_cf (d + 1)) (ev_un al_mX7_resolve.2.2.2.2) (some .boolean) 148 [36893488147419103291, v1, u2, u3, u4, v5, v6, v7] [s0, s1, 36893488147419103255] xm_sh F 0 0 (wkZ xm_T xm_sh x) := by
  intro u2 u3 u4 F hT v1 hv1 v5 hv5 v6 hv6 v7 hv7 s0 hs0 s1 hs1 hu2 hu3 hu4 x h
  unfold dk_169_148 at h
  obtain ⟨g1, h⟩ := od_gE h
  obtain ⟨F2, e3, h⟩ := od_upE h
  refine wd_iastore (q := 23) (n := 1500) rfl rfl (by decide) g1 (by decide) hs0 e3 ?_
  have T4 : xm_T F2 := wd_T e3 (hT.ua (k := 23) (kd := 1000) (n := 1500) (i := s1) (v := s0) rfl (by decide) g1 (show s0 < 4294967296 from hs0))
  refine wq_aload_n rfl rfl rfl ?_
  refine xm_getR (v := 36893488147419103298) (q := 59) rfl rfl (by decide) (by decide) (T4.r (k := 59) 9 65 rfl (by decide) rfl) ?_
  refine wq_iload rfl rfl hv6 ?_
  refine wq_bipush rfl rfl ?_
  refine wq_imul rfl hv6 (by decide) ?_
  refine wq_iload rfl rfl hv7 ?_
  refine wq_iaddZ rfl (Nat.mod_lt _ (by decide)) hv7 (z := ((ev_oMul v6 30) + v7) % 4294967296) rfl ?_
  obtain ⟨y5, e6, h⟩ := od_letE h
  refine wq_top e6.symm ?_
  have p7 : y5 < 4294967296 := wd_lt e6 (Nat.mod_lt _ (by decide))
  refine wq_iload_n rfl rfl hv1 ?_
  obtain ⟨g8, h⟩ := od_gE h
  obtain ⟨F9, e10, h⟩ := od_upE h
  refine wd_iastore (q := 66) (n := 1500) rfl rfl (by decide) g8 (by decide) hv1 e10 ?_
  have T11 : xm_T F9 := wd_T e10 (T4.ua (k := 66) (kd := 1000) (n := 1500) (i := y5) (v := v1) rfl (by decide) g8 (show v1 < 4294967296 from hv1))
  refine wq_aload_n rfl rfl rfl ?_
  refine xm_getR (v := 36893488147419103243) (q := 59) rfl rfl (by decide) (by decide) (T11.r (k := 59) 0 10 rfl (by decide) rfl) ?_
  refine xm_getR (v := 36893488147419103252) (q := 11) rfl rfl (by decide) (by decide) (T11.r (k := 11) 10 19 rfl (by decide) rfl) ?_
  refine wq_iload rfl rfl hv6 ?_
  refine wq_dup2 rfl (wq_notL hv6) rfl ?_
  obtain ⟨g12, h⟩ := od_gE h
  refine wq_iaload (q := 20) (n := 50) rfl rfl (by decide) g12 (by decide) ?_
  refine wq_iconst rfl rfl ?_
  refine wq_iaddZ rfl (T11.ai (k := 20) rfl g12) (wm_zlt (by decide)) (z := ((F9 20 v6) + 1) % 4294967296) rfl ?_
  obtain ⟨y13, e14, h⟩ := od_letE h
  refine wq_top e14.symm ?_
  have p15 : y13 < 4294967296 := wd_lt e14 (Nat.mod_lt _ (by decide))
  obtain ⟨g16, h⟩ := od_gE h
  obtain ⟨F17, e18, h⟩ := od_upE h
  refine wd_iastore (q := 20) (n := 50) rfl rfl (by decide) g16 (by decide) p15 e18 ?_
  have T19 : xm_T F17 := wd_T e18 (T11.ua (k := 20) (kd := 1000) (n := 50) (i := v6) (v := y13) rfl (by decide) g16 (show y13 < 4294967296 from p15))
  refine wq_iconst rfl rfl ?_
  refine wq_istore_n rfl (by decide) (Nat.le_of_ble_eq_true rfl) (Or.inr ⟨_, rfl, hu2⟩) (L' := [36893488147419103291, v1, u2, 4294967295, u4, v5, v6, v7]) rfl ?_
  refine wq_iload rfl rfl hv7 ?_
  refine wq_istore rfl hv7 (Nat.le_of_ble_eq_true rfl) (Or.inr ⟨_, rfl, (wq_notL (by decide))⟩) (L' := [36893488147419103291, v1, u2, 4294967295, v7, v5, v6, v7]) rfl ?_
  obtain ⟨y20, e21, h⟩ := od_letE h
  have p22 : y20 < 4294967296 := wd_lt e21 (Nat.mod_lt _ (by decide))
  refine wq_iincZ rfl rfl hv5 (Or.inr ⟨_, rfl, (wq_notL hv7)⟩) rfl (z := y20) e21.symm (L' := [36893488147419103291, v1, u2, 4294967295, v7, y20, v6, v7]) rfl ?_
  refine wq_goto rfl rfl ?_
  exact hr82 T19 hv1 (by decide) hv7 p22 hu2 (wq_notL hv6) (wq_notL hv7) h
def dk_169_82b (n : Nat) (r82 : wq_F → Nat → Nat → Nat → Nat → Option (Nat × wq_F)) (F : wq_F) (v1 : Nat) (v3 : Nat) (v4 : Nat) (v5 : Nat) : Option (Nat × wq_F) :=
  if ev_s (F 59 8) < ev_s v5 then
    if 2147483648 ≤ v3 then
      dk_169_200 n F v3 v4 7
    else
      dk_169_200 n F v3 v4 5
  else
    od_g (v5 < 24) <|
    od_g (F 62 v5 < 50) <|
    if ev_s (F 20 (F 62 v5)) < ev_s 30 then
      od_let (((ev_oMul (F 62 v5) 30) + (F 20 (F 62 v5))) % 4294967296) fun y6 =>
      if 2147483648 ≤ v3 then
        dk_169_148 n r82 F v1 v5 (F 62 v5) (F 20 (F 62 v5)) (ev_oXor v4 4294967295) y6
      else
        dk_169_148 n r82 F v1 v5 (F 62 v5) (F 20 (F 62 v5)) v3 y6
    else
      some (0, F)
theorem dk_169_82bT {d n : Nat} {r82 : wq_F → Nat → Nat → Nat → Nat → Option (Nat × wq_F)} (hr82 : ∀ ⦃u2 : Nat⦄ ⦃u6 : Nat⦄ ⦃u7 : Nat⦄ ⦃F : wq_F⦄ (hT : xm_T F) ⦃v1 : Nat⦄ (hv1 : v1 < 4294967296) ⦃v3 : Nat⦄ (hv3 : v3 < 4294967296) ⦃v4 : Nat⦄ (hv4 : v4 < 4294967296) ⦃v5 : Nat⦄ (hv5 : v5 < 4294967296) (hu2 : ev_isL u2 = false) (hu6 : ev_isL u6 = false) (hu7 : ev_isL u7 = false) ⦃x : Nat × wq_F⦄ (h : r82 F v1 v3 v4 v5 = some x), wq (wq_cf (d + 1)) (ev_un al_mX7_resolve.2.2.2.2) (some .boolean) 82 [36893488147419103291, v1, u2, v3, v4, v5, u6, u7] [] xm_sh F 0 0 (wkZ xm_T xm_sh x)) : ∀ ⦃u2 : Nat⦄ ⦃u6 : Nat⦄ ⦃u7 : Nat⦄ ⦃F : wq_F⦄ (hT : xm_T F) ⦃v1 : Nat⦄ (hv1 : v1 < 4294967296) ⦃v3 : Nat⦄ (hv3 : v3 < 4294967296) ⦃v4 : Nat⦄ (hv4 : v4 < 4294967296) ⦃v5 : Nat⦄ (hv5 : v5 < 4294967296) (hu2 : ev_isL u2 = false) (hu6 : ev_isL u6 = false) (hu7 : ev_isL u7 = false) ⦃x : Nat × wq_F⦄ (h : dk_169_82b n r82 F v1 v3 v4 v5 = some x), wq (wq_cf (d + 1)) (ev_un al_mX7_resolve.2.2.2.2) (some .boolean) 82 [36893488147419103291, v1, u2, v3, v4, v5, u6, u7] [] xm_sh F 0 0 (wkZ xm_T xm_sh x) := by
  intro u2 u6 u7 F hT v1 hv1 v3 hv3 v4 hv4 v5 hv5 hu2 hu6 hu7 x h
  unfold dk_169_82b at h
  refine wq_iload rfl rfl hv5 ?_
  refine wq_aload_n rfl rfl rfl ?_
  refine xm_getI (q := 59) rfl rfl (by decide) (by decide) ?_
  refine wq_ic_gt rfl rfl hv5 (hT.i (k := 59) 8 rfl (by decide) rfl) (fun h1 => ?_) (fun h1 => ?_)
  · replace h := od_pos h h1
    refine wq_aload_n rfl rfl rfl ?_
    refine wq_iload_n rfl rfl hv3 ?_
    refine wq_if_lt rfl rfl hv3 (fun h2 => ?_) (fun h2 => ?_)
    · replace h := od_pos h h2
      refine wq_bipush rfl rfl ?_
      exact dk_169_200T hT hv3 hv4 (by decide) (wq_notL hv1) hu2 (wq_notL hv5) hu6 hu7 h
    · replace h := od_neg h (Nat.not_le.mpr h2)
      refine wq_iconst rfl rfl ?_
      refine wq_goto rfl rfl ?_
      exact dk_169_200T hT hv3 hv4 (by decide) (wq_notL hv1) hu2 (wq_notL hv5) hu6 hu7 h
  · replace h := od_neg h (Nat.not_lt.mpr h1)
    refine wq_aload_n rfl rfl rfl ?_
    refine xm_getR (v := 36893488147419103294) (q := 59) rfl rfl (by decide) (by decide) (hT.r (k := 59) 4 61 rfl (by decide) rfl) ?_
    refine wq_iload rfl rfl hv5 ?_
    obtain ⟨g3, h⟩ := od_gE h
    refine wq_iaload (q := 62) (n := 24) rfl rfl (by decide) g3 (by decide) ?_
    refine wq_istore rfl (hT.ai (k := 62) rfl g3) (Nat.le_of_ble_eq_true rfl) (Or.inr ⟨_, rfl, (wq_notL hv5)⟩) (L' := [36893488147419103291, v1, u2, v3, v4, v5, F 62 v5, u7]) rfl ?_
    refine wq_aload_n rfl rfl rfl ?_
    refine xm_getR (v := 36893488147419103243) (q := 59) rfl rfl (by decide) (by decide) (hT.r (k := 59) 0 10 rfl (by decide) rfl) ?_
    refine xm_getR (v := 36893488147419103252) (q := 11) rfl rfl (by decide) (by decide) (hT.r (k := 11) 10 19 rfl (by decide) rfl) ?_
    refine wq_iload rfl rfl (hT.ai (k := 62) rfl g3) ?_
    obtain ⟨g4, h⟩ := od_gE h
    refine wq_iaload (q := 20) (n := 50) rfl rfl (by decide) g4 (by decide) ?_
    refine wq_istore rfl (hT.ai (k := 20) rfl g4) (Nat.le_of_ble_eq_true rfl) (Or.inr ⟨_, rfl, (wq_notL (hT.ai (k := 62) rfl g3))⟩) (L' := [36893488147419103291, v1, u2, v3, v4, v5, F 62 v5, F 20 (F 62 v5)]) rfl ?_
    refine wq_iload rfl rfl (hT.ai (k := 20) rfl g4) ?_
    refine wq_bipush rfl rfl ?_
    refine wq_ic_lt rfl rfl (hT.ai (k := 20) rfl g4) (by decide) (fun h5 => ?_) (fun h5 => ?_)
    · replace h := od_pos h h5
      refine wq_aload_n rfl rfl rfl ?_
      refine xm_getR (v := 36893488147419103243) (q := 59) rfl rfl (by decide) (by decide) (hT.r (k := 59) 0 10 rfl (by decide) rfl) ?_
      refine xm_getR (v := 36893488147419103255) (q := 11) rfl rfl (by decide) (by decide) (hT.r (k := 11) 13 22 rfl (by decide) rfl) ?_
      refine wq_iload rfl rfl (hT.ai (k := 62) rfl g3) ?_
      refine wq_bipush rfl rfl ?_
      refine wq_imul rfl (hT.ai (k := 62) rfl g3) (by decide) ?_
      refine wq_iload rfl rfl (hT.ai (k := 20) rfl g4) ?_
      refine wq_iaddZ rfl (Nat.mod_lt _ (by decide)) (hT.ai (k := 20) rfl g4) (z := ((ev_oMul (F 62 v5) 30) + (F 20 (F 62 v5))) % 4294967296) rfl ?_
      obtain ⟨y6, e7, h⟩ := od_letE h
      refine wq_top e7.symm ?_
      have p8 : y6 < 4294967296 := wd_lt e7 (Nat.mod_lt _ (by decide))
      refine wq_iload_n rfl rfl hv3 ?_
      refine wq_if_lt rfl rfl hv3 (fun h9 => ?_) (fun h9 => ?_)
      · replace h := od_pos h h9
        refine wq_iload rfl rfl hv4 ?_
        refine wq_iconst rfl rfl ?_
        refine wq_ixor rfl hv4 (by decide) ?_
        exact dk_169_148T hr82 hT hv1 hv5 (hT.ai (k := 62) rfl g3) (hT.ai (k := 20) rfl g4) (wq_I_ixor hv4 (by decide)) p8 hu2 (wq_notL hv3) (wq_notL hv4) h
      · replace h := od_neg h (Nat.not_le.mpr h9)
        refine wq_iload_n rfl rfl hv3 ?_
        refine wq_goto rfl rfl ?_
        exact dk_169_148T hr82 hT hv1 hv5 (hT.ai (k := 62) rfl g3) (hT.ai (k := 20) rfl g4) hv3 p8 hu2 (wq_notL hv3) (wq_notL hv4) h
    · replace h := od_neg h (Nat.not_lt.mpr h5)
      refine wq_iconst rfl rfl ?_
      exact wq_iret rfl (wm_zlt (by decide)) (Nat.blt_eq.mpr (by decide)) (wkOZ h hT (by decide))
def dk_169_82 (n : Nat) : Nat → wq_F → Nat → Nat → Nat → Nat → Option (Nat × wq_F)
  | 0 => fun _ _ _ _ _ => none
  | g + 1 => dk_169_82b n (dk_169_82 n g)
theorem dk_169_82T {d n : Nat} : ∀ g : Nat, ∀ ⦃u2 : Nat⦄ ⦃u6 : Nat⦄ ⦃u7 : Nat⦄ ⦃F : wq_F⦄ (hT : xm_T F) ⦃v1 : Nat⦄ (hv1 : v1 < 4294967296) ⦃v3 : Nat⦄ (hv3 : v3 < 4294967296) ⦃v4 : Nat⦄ (hv4 : v4 < 4294967296) ⦃v5 : Nat⦄ (hv5 : v5 < 4294967296) (hu2 : ev_isL u2 = false) (hu6 : ev_isL u6 = false) (hu7 : ev_isL u7 = false) ⦃x : Nat × wq_F⦄ (h : dk_169_82 n g F v1 v3 v4 v5 = some x), wq (wq_cf (d + 1)) (ev_un al_mX7_resolve.2.2.2.2) (some .boolean) 82 [36893488147419103291, v1, u2, v3, v4, v5, u6, u7] [] xm_sh F 0 0 (wkZ xm_T xm_sh x)
  | 0 => by
    intro u2 u6 u7 F hT v1 hv1 v3 hv3 v4 hv4 v5 hv5 hu2 hu6 hu7 x h
    cases h
  | g + 1 => dk_169_82bT (dk_169_82T g)
def dk_169_60 (n : Nat) (F : wq_F) (v1 : Nat) (v2 : Nat) (v3 : Nat) (v4 : Nat) : Option (Nat × wq_F) :=
  if 2147483648 ≤ v2 then
    od_up F 59 10 9 fun F2 =>
    od_up F2 59 11 v1 fun F5 =>
    some (1, F5)
  else
    dk_169_82 n n F v1 v3 v4 ((v2 + 1) % 4294967296)
theorem dk_169_60T {d n : Nat} : ∀ ⦃F : wq_F⦄ (hT : xm_T F) ⦃v1 : Nat⦄ (hv1 : v1 < 4294967296) ⦃v2 : Nat⦄ (hv2 : v2 < 4294967296) ⦃v3 : Nat⦄ (hv3 : v3 < 4294967296) ⦃v4 : Nat⦄ (hv4 : v4 < 4294967296) ⦃x : Nat × wq_F⦄ (h : dk_169_60 n F v1 v2 v3 v4 = some x), wq (wq_cf (d + 1)) (ev_un al_mX7_resolve.2.2.2.2) (some .boolean) 60 [36893488147419103291, v1, v2, v3, v4, 73786976294838206464, 73786976294838206464, 73786976294838206464] [] xm_sh F 0 0 (wkZ xm_T xm_sh x) := by
  intro F hT v1 hv1 v2 hv2 v3 hv3 v4 hv4 x h
  unfold dk_169_60 at h
  refine wq_iload_n rfl rfl hv2 ?_
  refine wq_if_ge rfl rfl hv2 (fun h1 => ?_) (fun h1 => ?_)
  · replace h := od_neg h (Nat.not_le.mpr h1)
    refine wq_iload_n rfl rfl hv2 ?_
    refine wq_iconst rfl rfl ?_
    refine wq_iaddZ rfl hv2 (wm_zlt (by decide)) (z := (v2 + 1) % 4294967296) rfl ?_
    refine wq_istore rfl (Nat.mod_lt _ (by decide)) (Nat.le_of_ble_eq_true rfl) (Or.inr ⟨_, rfl, (wq_notL hv4)⟩) (L' := [36893488147419103291, v1, v2, v3, v4, (v2 + 1) % 4294967296, 73786976294838206464, 73786976294838206464]) rfl ?_
    exact dk_169_82T n hT hv1 hv3 hv4 (Nat.mod_lt _ (by decide)) (wq_notL hv2) rfl rfl h
  · replace h := od_pos h h1
    refine wq_aload_n rfl rfl rfl ?_
    refine wq_bipush rfl rfl ?_
    obtain ⟨F2, e3, h⟩ := od_upE h
    refine xmE_put (q := 59) rfl rfl (by decide) (by decide) (wq_I (by decide)) e3 ?_
    have T4 : xm_T F2 := wd_T e3 (hT.uf (k := 59) (f := 10) (c := 0) (v := 9) rfl (by decide) rfl (show 9 < 4294967296 from (by decide)))
    refine wq_aload_n rfl rfl rfl ?_
    refine wq_iload_n rfl rfl hv1 ?_
    obtain ⟨F5, e6, h⟩ := od_upE h
    refine xmE_put (q := 59) rfl rfl (by decide) (by decide) (wq_I hv1) e6 ?_
    have T7 : xm_T F5 := wd_T e6 (T4.uf (k := 59) (f := 11) (c := 0) (v := v1) rfl (by decide) rfl (show v1 < 4294967296 from hv1))
    refine wq_iconst rfl rfl ?_
    exact wq_iret rfl (wm_zlt (by decide)) (Nat.blt_eq.mpr (by decide)) (wkOZ h T7 (by decide))
def dk_169_40 (n : Nat) (r10 : wq_F → Nat → Nat → Nat → Nat → Option (Nat × wq_F)) (F : wq_F) (v1 : Nat) (v2 : Nat) (v3 : Nat) (s0 : Nat) : Option (Nat × wq_F) :=
  if 2147483648 ≤ v3 then
    if 2147483648 ≤ s0 then
      od_let ((v2 + 4294967295) % 4294967296) fun y3 =>
      r10 F v1 y3 v3 s0
    else
      dk_169_60 n F v1 v2 v3 s0
  else
    dk_169_60 n F v1 v2 v3 s0
theorem dk_169_40T {d n : Nat} {r10 : wq_F → Nat → Nat → Nat → Nat → Option (Nat × wq_F)} (hr10 : ∀ ⦃F : wq_F⦄ (hT : xm_T F) ⦃v1 : Nat⦄ (hv1 : v1 < 4294967296) ⦃v2 : Nat⦄ (hv2 : v2 < 4294967296) ⦃v3 : Nat⦄ (hv3 : v3 < 4294967296) ⦃v4 : Nat⦄ (hv4 : v4 < 4294967296) ⦃x : Nat × wq_F⦄ (h : r10 F v1 v2 v3 v4 = some x), wq (wq_cf (d + 1)) (ev_un al_mX7_resolve.2.2.2.2) (some .boolean) 10 [36893488147419103291, v1, v2, v3, v4, 73786976294838206464, 73786976294838206464, 73786976294838206464] [] xm_sh F 0 0 (wkZ xm_T xm_sh x)) : ∀ ⦃u4 : Nat⦄ ⦃F : wq_F⦄ (hT : xm_T F) ⦃v1 : Nat⦄ (hv1 : v1 < 4294967296) ⦃v2 : Nat⦄ (hv2 : v2 < 4294967296) ⦃v3 : Nat⦄ (hv3 : v3 < 4294967296) ⦃s0 : Nat⦄ (hs0 : s0 < 4294967296) (hu4 : ev_isL u4 = false) ⦃x : Nat × wq_F⦄ (h : dk_169_40 n r10 F v1 v2 v3 s0 = some x), wq (wq_cf (d + 1)) (ev_un al_mX7_resolve.2.2.2.2) (some .boolean) 40 [36893488147419103291, v1, v2, v3, u4, 73786976294838206464, 73786976294838206464, 73786976294838206464] [s0] xm_sh F 0 0 (wkZ xm_T xm_sh x) := by
  intro u4 F hT v1 hv1 v2 hv2 v3 hv3 s0 hs0 hu4 x h
  unfold dk_169_40 at h
  refine wq_istore rfl hs0 (Nat.le_of_ble_eq_true rfl) (Or.inr ⟨_, rfl, (wq_notL hv3)⟩) (L' := [36893488147419103291, v1, v2, v3, s0, 73786976294838206464, 73786976294838206464, 73786976294838206464]) rfl ?_
  refine wq_iload_n rfl rfl hv3 ?_
  refine wq_if_ge rfl rfl hv3 (fun h1 => ?_) (fun h1 => ?_)
  · replace h := od_neg h (Nat.not_le.mpr h1)
    exact dk_169_60T hT hv1 hv2 hv3 hs0 h
  · replace h := od_pos h h1
    refine wq_iload rfl rfl hs0 ?_
    refine wq_if_lt rfl rfl hs0 (fun h2 => ?_) (fun h2 => ?_)
    · replace h := od_pos h h2
      obtain ⟨y3, e4, h⟩ := od_letE h
      have p5 : y3 < 4294967296 := wd_lt e4 (Nat.mod_lt _ (by decide))
      refine wq_iincZ rfl rfl hv2 (Or.inr ⟨_, rfl, (wq_notL hv1)⟩) rfl (z := y3) e4.symm (L' := [36893488147419103291, v1, y3, v3, s0, 73786976294838206464, 73786976294838206464, 73786976294838206464]) rfl ?_
      refine wq_goto rfl rfl ?_
      exact hr10 hT hv1 p5 hv3 hs0 h
    · replace h := od_neg h (Nat.not_le.mpr h2)
      refine wq_goto rfl rfl ?_
      exact dk_169_60T hT hv1 hv2 hv3 hs0 h
def dk_169_10b (n : Nat) (r10 : wq_F → Nat → Nat → Nat → Nat → Option (Nat × wq_F)) (F : wq_F) (v1 : Nat) (v2 : Nat) (v3 : Nat) (v4 : Nat) : Option (Nat × wq_F) :=
  if 2147483648 ≤ v2 then
    dk_169_60 n F v1 v2 v3 v4
  else
    (dk_170 n F v2 v1).bind fun y2 =>
    if 2147483648 ≤ y2.1 then
      od_g (v2 < 24) <|
      (dk_171 n y2.2 (y2.2 62 v2) v1).bind fun y8 =>
      dk_169_40 n r10 y8.2 v1 v2 y2.1 y8.1
    else
      dk_169_40 n r10 y2.2 v1 v2 y2.1 4294967295
theorem dk_169_10bT {d n : Nat} {r10 : wq_F → Nat → Nat → Nat → Nat → Option (Nat × wq_F)} (hr10 : ∀ ⦃F : wq_F⦄ (hT : xm_T F) ⦃v1 : Nat⦄ (hv1 : v1 < 4294967296) ⦃v2 : Nat⦄ (hv2 : v2 < 4294967296) ⦃v3 : Nat⦄ (hv3 : v3 < 4294967296) ⦃v4 : Nat⦄ (hv4 : v4 < 4294967296) ⦃x : Nat × wq_F⦄ (h : r10 F v1 v2 v3 v4 = some x), wq (wq_cf (d + 1)) (ev_un al_mX7_resolve.2.2.2.2) (some .boolean) 10 [36893488147419103291, v1, v2, v3, v4, 73786976294838206464, 73786976294838206464, 73786976294838206464] [] xm_sh F 0 0 (wkZ xm_T xm_sh x)) : ∀ ⦃F : wq_F⦄ (hT : xm_T F) ⦃v1 : Nat⦄ (hv1 : v1 < 4294967296) ⦃v2 : Nat⦄ (hv2 : v2 < 4294967296) ⦃v3 : Nat⦄ (hv3 : v3 < 4294967296) ⦃v4 : Nat⦄ (hv4 : v4 < 4294967296) ⦃x : Nat × wq_F⦄ (h : dk_169_10b n r10 F v1 v2 v3 v4 = some x), wq (wq_cf (d + 1)) (ev_un al_mX7_resolve.2.2.2.2) (some .boolean) 10 [36893488147419103291, v1, v2, v3, v4, 73786976294838206464, 73786976294838206464, 73786976294838206464] [] xm_sh F 0 0 (wkZ xm_T xm_sh x) := by
  intro F hT v1 hv1 v2 hv2 v3 hv3 v4 hv4 x h
  unfold dk_169_10b at h
  refine wq_iload_n rfl rfl hv2 ?_
  refine wq_if_lt rfl rfl hv2 (fun h1 => ?_) (fun h1 => ?_)
  · replace h := od_pos h h1
    exact dk_169_60T hT hv1 hv2 hv3 hv4 h
  · replace h := od_neg h (Nat.not_le.mpr h1)
    refine wq_aload_n rfl rfl rfl ?_
    refine wq_iload_n rfl rfl hv2 ?_
    refine wq_iload_n rfl rfl hv1 ?_
    obtain ⟨y2, e3, h⟩ := od_bindE h
    refine wd_virtI (q := 59) (y := y2) (as := [36893488147419103291, v2, v1]) rfl rfl rfl (by decide) (Nat.le_of_ble_eq_true rfl) (Nat.le_of_ble_eq_true rfl) rfl (Nat.le_of_ble_eq_true rfl) rfl (dkT_170 hT hv2 hv1 e3) (fun p4 T5 => ?_)
    refine wq_istore_n rfl p4 (Nat.le_of_ble_eq_true rfl) (Or.inr ⟨_, rfl, (wq_notL hv2)⟩) (L' := [36893488147419103291, v1, v2, y2.1, v4, 73786976294838206464, 73786976294838206464, 73786976294838206464]) rfl ?_
    refine wq_iload_n rfl rfl p4 ?_
    refine wq_if_lt rfl rfl p4 (fun h6 => ?_) (fun h6 => ?_)
    · replace h := od_pos h h6
      refine wq_aload_n rfl rfl rfl ?_
      refine wq_aload_n rfl rfl rfl ?_
      refine xm_getR (v := 36893488147419103294) (q := 59) rfl rfl (by decide) (by decide) (T5.r (k := 59) 4 61 rfl (by decide) rfl) ?_
      refine wq_iload_n rfl rfl hv2 ?_
      obtain ⟨g7, h⟩ := od_gE h
      refine wq_iaload (q := 62) (n := 24) rfl rfl (by decide) g7 (by decide) ?_
      refine wq_iload_n rfl rfl hv1 ?_
      obtain ⟨y8, e9, h⟩ := od_bindE h
      refine wd_virtI (q := 59) (y := y8) (as := [36893488147419103291, y2.2 62 v2, v1]) rfl rfl rfl (by decide) (Nat.le_of_ble_eq_true rfl) (Nat.le_of_ble_eq_true rfl) rfl (Nat.le_of_ble_eq_true rfl) rfl (dkT_171 T5 (T5.ai (k := 62) rfl g7) hv1 e9) (fun p10 T11 => ?_)
      exact dk_169_40T hr10 T11 hv1 hv2 p4 p10 (wq_notL hv4) h
    · replace h := od_neg h (Nat.not_le.mpr h6)
      refine wq_iconst rfl rfl ?_
      refine wq_goto rfl rfl ?_
      exact dk_169_40T hr10 T5 hv1 hv2 p4 (by decide) (wq_notL hv4) h
def dk_169_10 (n : Nat) : Nat → wq_F → Nat → Nat → Nat → Nat → Option (Nat × wq_F)
  | 0 => fun _ _ _ _ _ => none
  | g + 1 => dk_169_10b n (dk_169_10 n g)
theorem dk_169_10T {d n : Nat} : ∀ g : Nat, ∀ ⦃F : wq_F⦄ (hT : xm_T F) ⦃v1 : Nat⦄ (hv1 : v1 < 4294967296) ⦃v2 : Nat⦄ (hv2 : v2 < 4294967296) ⦃v3 : Nat⦄ (hv3 : v3 < 4294967296) ⦃v4 : Nat⦄ (hv4 : v4 < 4294967296) ⦃x : Nat × wq_F⦄ (h : dk_169_10 n g F v1 v2 v3 v4 = some x), wq (wq_cf (d + 1)) (ev_un al_mX7_resolve.2.2.2.2) (some .boolean) 10 [36893488147419103291, v1, v2, v3, v4, 73786976294838206464, 73786976294838206464, 73786976294838206464] [] xm_sh F 0 0 (wkZ xm_T xm_sh x)
  | 0 => by
    intro F hT v1 hv1 v2 hv2 v3 hv3 v4 hv4 x h
    cases h
  | g + 1 => dk_169_10bT (dk_169_10T g)
/-- X7_resolve -/
def dk_169 (n : Nat) (F : wq_F) (a0 : Nat) : Option (Nat × wq_F) :=
  dk_169_10 n n F a0 (F 59 8) 4294967295 4294967295
theorem dkT_169 {d n : Nat} {F : wq_F} (hT : xm_T F) {a0 : Nat} (ha0 : a0 < 4294967296) {x : Nat × wq_F} (h : dk_169 n F a0 = some x) : mq (d + 1 + 1) 169 [36893488147419103291, a0] xm_sh F (wkZ xm_T xm_sh x) := by
  have e : ev_ent [36893488147419103291, a0] = [36893488147419103291, a0] := by
    show 36893488147419103291 :: ev_ent [a0] = _
    rw [wm_entI ha0]
    rfl
  refine mq_of (maxL := 8) (rt := (some .boolean)) (code := (ev_un al_mX7_resolve.2.2.2.2)) (L := [36893488147419103291, a0, 73786976294838206464, 73786976294838206464, 73786976294838206464, 73786976294838206464, 73786976294838206464, 73786976294838206464]) rfl (by rw [e]; exact Nat.le_of_ble_eq_true rfl) (by rw [e]; rfl) ?_
  unfold dk_169 at h
  refine wq_aload_n rfl rfl rfl ?_
  refine xm_getI (q := 59) rfl rfl (by decide) (by decide) ?_
  refine wq_istore_n rfl (hT.i (k := 59) 8 rfl (by decide) rfl) (Nat.le_of_ble_eq_true rfl) (Or.inr ⟨_, rfl, (wq_notL ha0)⟩) (L' := [36893488147419103291, a0, F 59 8, 73786976294838206464, 73786976294838206464, 73786976294838206464, 73786976294838206464, 73786976294838206464]) rfl ?_
  refine wq_iconst rfl rfl ?_
  refine wq_istore_n rfl (by decide) (Nat.le_of_ble_eq_true rfl) (Or.inr ⟨_, rfl, (wq_notL (hT.i (k := 59) 8 rfl (by decide) rfl))⟩) (L' := [36893488147419103291, a0, F 59 8, 4294967295, 73786976294838206464, 73786976294838206464, 73786976294838206464, 73786976294838206464]) rfl ?_
  refine wq_iconst rfl rfl ?_
  refine wq_istore rfl (by decide) (Nat.le_of_ble_eq_true rfl) (Or.inr ⟨_, rfl, (wq_notL (by decide))⟩) (L' := [36893488147419103291, a0, F 59 8, 4294967295, 4294967295, 73786976294838206464, 73786976294838206464, 73786976294838206464]) rfl ?_
  exact dk_169_10T n hT ha0 (hT.i (k := 59) 8 rfl (by decide) rfl) (by decide) (by decide) h
/-- X4_startName -/
def dk_133 (n : Nat) (F : wq_F) : Option (Nat × wq_F) :=
  if (F 57 4) = 2 then
    (dk_169 n F (ev_oL2i (F 57 8))).bind fun y2 =>
    if y2.1 = 0 then
      (dk_109 y2.2 3).bind fun y17 =>
      some (0, y17.2)
    else
      od_up y2.2 56 7 (y2.2 59 10) fun F7 =>
      od_up F7 56 8 (F7 59 11) fun F10 =>
      (dk_77 n F10).bind fun y13 =>
      some (0, y13.2)
  else
    (dk_109 F 2).bind fun y21 =>
    some (0, y21.2)
theorem dkT_133 {d n : Nat} {F : wq_F} (hT : xm_T F) {x : Nat × wq_F} (h : dk_133 n F = some x) : mq (d + 6 + 1) 133 [36893488147419103288] xm_sh F (wkN xm_T xm_sh x) := by
  have e : ev_ent [36893488147419103288] = [36893488147419103288] := by
    rfl
  refine mq_of (maxL := 1) (rt := none) (code := (ev_un al_mX4_startName.2.2.2.2)) (L := [36893488147419103288]) rfl (by rw [e]; exact Nat.le_of_ble_eq_true rfl) (by rw [e]; rfl) ?_
  unfold dk_133 at h
  refine wq_aload_n rfl rfl rfl ?_
  refine xm_getR (v := 36893488147419103289) (q := 56) rfl rfl (by decide) (by decide) (hT.r (k := 56) 0 56 rfl (by decide) rfl) ?_
  refine xm_getI (q := 57) rfl rfl (by decide) (by decide) ?_
  refine wq_iconst rfl rfl ?_
  refine wq_ic_eq rfl rfl (hT.i (k := 57) 4 rfl (by decide) rfl) (by decide) (fun h1 => ?_) (fun h1 => ?_)
  · replace h := od_pos h h1
    refine wq_aload_n rfl rfl rfl ?_
    refine xm_getR (v := 36893488147419103291) (q := 56) rfl rfl (by decide) (by decide) (hT.r (k := 56) 3 58 rfl (by decide) rfl) ?_
    refine wq_aload_n rfl rfl rfl ?_
    refine xm_getR (v := 36893488147419103289) (q := 56) rfl rfl (by decide) (by decide) (hT.r (k := 56) 0 56 rfl (by decide) rfl) ?_
    refine xm_getI (q := 57) rfl rfl (by decide) (by decide) ?_
    refine wq_l2i rfl (hT.l (k := 57) 8 rfl (by decide) rfl) ?_
    obtain ⟨y2, e3, h⟩ := od_bindE h
    refine wd_virtZ (q := 59) (y := y2) (as := [36893488147419103291, ev_oL2i (F 57 8)]) rfl rfl rfl (by decide) (Nat.le_of_ble_eq_true rfl) (Nat.le_of_ble_eq_true rfl) rfl (Nat.le_of_ble_eq_true rfl) rfl (dkT_169 hT (Nat.mod_lt _ (by decide)) e3) (fun p4 T5 => ?_)
    refine wq_if_ne rfl rfl (wm_zlt p4) (fun h6 => ?_) (fun h6 => ?_)
    · replace h := od_neg h h6
      refine wq_aload_n rfl rfl rfl ?_
      refine wq_aload_n rfl rfl rfl ?_
      refine xm_getR (v := 36893488147419103291) (q := 56) rfl rfl (by decide) (by decide) (T5.r (k := 56) 3 58 rfl (by decide) rfl) ?_
      refine xm_getI (q := 59) rfl rfl (by decide) (by decide) ?_
      obtain ⟨F7, e8, h⟩ := od_upE h
      refine xmE_put (q := 56) rfl rfl (by decide) (by decide) (wq_I (T5.i (k := 59) 10 rfl (by decide) rfl)) e8 ?_
      have T9 : xm_T F7 := wd_T e8 (T5.uf (k := 56) (f := 7) (c := 0) (v := y2.2 59 10) rfl (by decide) rfl (show y2.2 59 10 < 4294967296 from (T5.i (k := 59) 10 rfl (by decide) rfl)))
      refine wq_aload_n rfl rfl rfl ?_
      refine wq_aload_n rfl rfl rfl ?_
      refine xm_getR (v := 36893488147419103291) (q := 56) rfl rfl (by decide) (by decide) (T9.r (k := 56) 3 58 rfl (by decide) rfl) ?_
      refine xm_getI (q := 59) rfl rfl (by decide) (by decide) ?_
      obtain ⟨F10, e11, h⟩ := od_upE h
      refine xmE_put (q := 56) rfl rfl (by decide) (by decide) (wq_I (T9.i (k := 59) 11 rfl (by decide) rfl)) e11 ?_
      have T12 : xm_T F10 := wd_T e11 (T9.uf (k := 56) (f := 8) (c := 0) (v := F7 59 11) rfl (by decide) rfl (show F7 59 11 < 4294967296 from (T9.i (k := 59) 11 rfl (by decide) rfl)))
      refine wq_aload_n rfl rfl rfl ?_
      obtain ⟨y13, e14, h⟩ := od_bindE h
      refine wd_virtN (q := 56) (y := y13) (as := [36893488147419103288]) rfl rfl rfl (by decide) (Nat.le_of_ble_eq_true rfl) (Nat.le_of_ble_eq_true rfl) rfl (Nat.le_of_ble_eq_true rfl) rfl (dkT_77 T12 e14) (fun T16 => ?_)
      exact wq_ret rfl (wkON h T16)
    · replace h := od_pos h h6
      refine wq_aload_n rfl rfl rfl ?_
      refine wq_iconst rfl rfl ?_
      obtain ⟨y17, e18, h⟩ := od_bindE h
      refine wd_virtN (q := 56) (y := y17) (as := [36893488147419103288, 3]) rfl rfl rfl (by decide) (Nat.le_of_ble_eq_true rfl) (Nat.le_of_ble_eq_true rfl) rfl (Nat.le_of_ble_eq_true rfl) rfl (dkT_109 T5 (by decide) e18) (fun T20 => ?_)
      exact wq_ret rfl (wkON h T20)
  · replace h := od_neg h h1
    refine wq_aload_n rfl rfl rfl ?_
    refine wq_iconst rfl rfl ?_
    obtain ⟨y21, e22, h⟩ := od_bindE h
    refine wd_virtN (q := 56) (y := y21) (as := [36893488147419103288, 2]) rfl rfl rfl (by decide) (Nat.le_of_ble_eq_true rfl) (Nat.le_of_ble_eq_true rfl) rfl (Nat.le_of_ble_eq_true rfl) rfl (dkT_109 hT (by decide) e22) (fun T24 => ?_)
    exact wq_ret rfl (wkON h T24)
/-- X4_readTail -/
def dk_136 (F : wq_F) : Option (Nat × wq_F) :=
  if (F 56 7) = 11 then
    (dk_112 F 11 0 (F 56 9) 4294967295).bind fun y13 =>
    od_up y13.2 56 7 4294967295 fun F17 =>
    some (0, F17)
  else
    if 2147483648 ≤ (F 56 7) then
      od_up F 56 7 4294967295 fun F3 =>
      some (0, F3)
    else
      (dk_112 F (F 56 7) (F 56 8) 0 1).bind fun y6 =>
      od_up y6.2 56 7 4294967295 fun F10 =>
      some (0, F10)
theorem dkT_136 {d : Nat} {F : wq_F} (hT : xm_T F) {x : Nat × wq_F} (h : dk_136 F = some x) : mq (d + 3 + 1) 136 [36893488147419103288] xm_sh F (wkN xm_T xm_sh x) := by
  have e : ev_ent [36893488147419103288] = [36893488147419103288] := by
    rfl
  refine mq_of (maxL := 1) (rt := none) (code := (ev_un al_mX4_readTail.2.2.2.2)) (L := [36893488147419103288]) rfl (by rw [e]; exact Nat.le_of_ble_eq_true rfl) (by rw [e]; rfl) ?_
  unfold dk_136 at h
  refine wq_aload_n rfl rfl rfl ?_
  refine xm_getI (q := 56) rfl rfl (by decide) (by decide) ?_
  refine wq_bipush rfl rfl ?_
  refine wq_ic_ne rfl rfl (hT.i (k := 56) 7 rfl (by decide) rfl) (by decide) (fun h1 => ?_) (fun h1 => ?_)
  · replace h := od_neg h h1
    refine wq_aload_n rfl rfl rfl ?_
    refine xm_getI (q := 56) rfl rfl (by decide) (by decide) ?_
    refine wq_if_lt rfl rfl (hT.i (k := 56) 7 rfl (by decide) rfl) (fun h2 => ?_) (fun h2 => ?_)
    · replace h := od_pos h h2
      refine wq_aload_n rfl rfl rfl ?_
      refine wq_iconst rfl rfl ?_
      obtain ⟨F3, e4, h⟩ := od_upE h
      refine xmE_put (q := 56) rfl rfl (by decide) (by decide) (wq_I (by decide)) e4 ?_
      have T5 : xm_T F3 := wd_T e4 (hT.uf (k := 56) (f := 7) (c := 0) (v := 4294967295) rfl (by decide) rfl (show 4294967295 < 4294967296 from (by decide)))
      exact wq_ret rfl (wkON h T5)
    · replace h := od_neg h (Nat.not_le.mpr h2)
      refine wq_aload_n rfl rfl rfl ?_
      refine wq_aload_n rfl rfl rfl ?_
      refine xm_getI (q := 56) rfl rfl (by decide) (by decide) ?_
      refine wq_aload_n rfl rfl rfl ?_
      refine xm_getI (q := 56) rfl rfl (by decide) (by decide) ?_
      refine wq_iconst rfl rfl ?_
      refine wq_iconst rfl rfl ?_
      obtain ⟨y6, e7, h⟩ := od_bindE h
      refine wd_virtN (q := 56) (y := y6) (as := [36893488147419103288, F 56 7, F 56 8, 0, 1]) rfl rfl rfl (by decide) (Nat.le_of_ble_eq_true rfl) (Nat.le_of_ble_eq_true rfl) rfl (Nat.le_of_ble_eq_true rfl) rfl (dkT_112 hT (hT.i (k := 56) 7 rfl (by decide) rfl) (hT.i (k := 56) 8 rfl (by decide) rfl) (wm_zlt (by decide)) (wm_zlt (by decide)) e7) (fun T9 => ?_)
      refine wq_aload_n rfl rfl rfl ?_
      refine wq_iconst rfl rfl ?_
      obtain ⟨F10, e11, h⟩ := od_upE h
      refine xmE_put (q := 56) rfl rfl (by decide) (by decide) (wq_I (by decide)) e11 ?_
      have T12 : xm_T F10 := wd_T e11 (T9.uf (k := 56) (f := 7) (c := 0) (v := 4294967295) rfl (by decide) rfl (show 4294967295 < 4294967296 from (by decide)))
      exact wq_ret rfl (wkON h T12)
  · replace h := od_pos h h1
    refine wq_aload_n rfl rfl rfl ?_
    refine wq_bipush rfl rfl ?_
    refine wq_iconst rfl rfl ?_
    refine wq_aload_n rfl rfl rfl ?_
    refine xm_getI (q := 56) rfl rfl (by decide) (by decide) ?_
    refine wq_iconst rfl rfl ?_
    obtain ⟨y13, e14, h⟩ := od_bindE h
    refine wd_virtN (q := 56) (y := y13) (as := [36893488147419103288, 11, 0, F 56 9, 4294967295]) rfl rfl rfl (by decide) (Nat.le_of_ble_eq_true rfl) (Nat.le_of_ble_eq_true rfl) rfl (Nat.le_of_ble_eq_true rfl) rfl (dkT_112 hT (by decide) (wm_zlt (by decide)) (hT.i (k := 56) 9 rfl (by decide) rfl) (by decide) e14) (fun T16 => ?_)
    refine wq_goto rfl rfl ?_
    refine wq_aload_n rfl rfl rfl ?_
    refine wq_iconst rfl rfl ?_
    obtain ⟨F17, e18, h⟩ := od_upE h
    refine xmE_put (q := 56) rfl rfl (by decide) (by decide) (wq_I (by decide)) e18 ?_
    have T19 : xm_T F17 := wd_T e18 (T16.uf (k := 56) (f := 7) (c := 0) (v := 4294967295) rfl (by decide) rfl (show 4294967295 < 4294967296 from (by decide)))
    exact wq_ret rfl (wkON h T19)
