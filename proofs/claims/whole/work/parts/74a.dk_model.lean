/-! ===== 74a: the reference: methods as functions on memories (by wip/whole2/law73.py, dc.py): 21 X12_word, 23 X12_hashOf, 22 X12_intern, 20 X12_hidden, 18 X12_internTypes, 19 X12_internNames, 17 X12_internBuilt, 25 X12_forgetFrom, 201 X12_wordBehind, 200 X12_wordAt, 202 X12_readName, 204 X12_escape ===== -/
def dk_21_3b (n : Nat) (r3 : wq_F → Nat → Nat → Option (Nat × wq_F)) (F : wq_F) (v1 : Nat) (v3 : Nat) : Option (Nat × wq_F) :=
  if 2147483648 ≤ v3 then
    some (0, F)
  else
    od_let (ev_oAnd (ev_oL2i (ev_oUshL v1 v3)) 255) fun y2 =>
    if 0 < y2 ∧ y2 < 2147483648 then
      od_g (F 0 20 < 4200) <|
      od_up F 8 (F 0 20) ((ev_b8 (ev_b8 y2))) fun F10 =>
      od_let (((F10 0 20) + 1) % 4294967296) fun y13 =>
      od_up F10 0 20 y13 fun F16 =>
      od_let ((v3 + 4294967288) % 4294967296) fun y19 =>
      r3 F16 v1 y19
    else
      od_let ((v3 + 4294967288) % 4294967296) fun y6 =>
      r3 F v1 y6
theorem dk_21_3bT {d n : Nat} {r3 : wq_F → Nat → Nat → Option (Nat × wq_F)} (hr3 : ∀ ⦃u4 : Nat⦄ ⦃F : wq_F⦄ (hT : wm_T F) ⦃v1 : Nat⦄ (hv1 : ev_isL v1 = true) ⦃v3 : Nat⦄ (hv3 : v3 < 4294967296) (hu4 : ev_isL u4 = false) ⦃x : Nat × wq_F⦄ (h : r3 F v1 v3 = some x), wq (wq_cf (d + 0)) (ev_un al_mX12_word.2.2.2.2) none 3 [36893488147419103232, v1, 73786976294838206464, v3, u4] [] wm_sh F 0 0 (wkN wm_T wm_sh x)) : ∀ ⦃u4 : Nat⦄ ⦃F : wq_F⦄ (hT : wm_T F) ⦃v1 : Nat⦄ (hv1 : ev_isL v1 = true) ⦃v3 : Nat⦄ (hv3 : v3 < 4294967296) (hu4 : ev_isL u4 = false) ⦃x : Nat × wq_F⦄ (h : dk_21_3b n r3 F v1 v3 = some x), wq (wq_cf (d + 0)) (ev_un al_mX12_word.2.2.2.2) none 3 [36893488147419103232, v1, 73786976294838206464, v3, u4] [] wm_sh F 0 0 (wkN wm_T wm_sh x) := by
  intro u4 F hT v1 hv1 v3 hv3 hu4 x h
  unfold dk_21_3b at h
  refine wq_iload_n rfl rfl hv3 ?_
  refine wq_if_lt rfl rfl hv3 (fun h1 => ?_) (fun h1 => ?_)
  · replace h := od_pos h h1
    exact wq_ret rfl (wkON h hT)
  · replace h := od_neg h (Nat.not_le.mpr h1)
    refine wq_lload_n rfl rfl hv1 ?_
    refine wq_iload_n rfl rfl hv3 ?_
    refine wq_lushr rfl hv1 hv3 ?_
    refine wq_l2i rfl (wq_L_lushr hv1 hv3) ?_
    refine wq_sipush rfl rfl ?_
    refine wq_iand rfl (Nat.mod_lt _ (by decide)) (by decide) ?_
    obtain ⟨y2, e3, h⟩ := od_letE h
    refine wq_top e3.symm ?_
    have p4 : y2 < 4294967296 := wd_lt e3 (wq_I_iand (Nat.mod_lt _ (by decide)) (by decide))
    refine wq_istore rfl p4 (Nat.le_of_ble_eq_true rfl) (Or.inr ⟨_, rfl, (wq_notL hv3)⟩) (L' := [36893488147419103232, v1, 73786976294838206464, v3, y2]) rfl ?_
    refine wq_iload rfl rfl p4 ?_
    refine wq_if_le rfl rfl p4 (fun h5 => ?_) (fun h5 => ?_)
    · replace h := od_neg h h5
      obtain ⟨y6, e7, h⟩ := od_letE h
      have p8 : y6 < 4294967296 := wd_lt e7 (Nat.mod_lt _ (by decide))
      refine wq_iincZ rfl rfl hv3 (Or.inr ⟨_, rfl, rfl⟩) rfl (z := y6) e7.symm (L' := [36893488147419103232, v1, 73786976294838206464, y6, y2]) rfl ?_
      refine wq_goto rfl rfl ?_
      exact hr3 hT hv1 p8 (wq_notL p4) h
    · replace h := od_pos h h5
      refine wq_aload_n rfl rfl rfl ?_
      refine wm_getR (v := 36893488147419103240) rfl (by decide) (hT.r 19 7 rfl) ?_
      refine wq_aload_n rfl rfl rfl ?_
      refine wm_getI rfl (by decide) ?_
      refine wq_iload rfl rfl p4 ?_
      refine wq_i2b rfl p4 ?_
      obtain ⟨g9, h⟩ := od_gE h
      obtain ⟨F10, e11, h⟩ := od_upE h
      refine wd_bastore (q := 8) (n := 4200) rfl rfl (by decide) g9 (by decide) (ev_b8_lt _) e11 ?_
      have T12 : wm_T F10 := wd_T e11 (hT.ua (k := 8) (kd := 1001) (n := 4200) (i := F 0 20) (v := (ev_b8 (ev_b8 y2))) rfl (by decide) g9 ⟨ev_b8_lt _, wm_b8b8 _⟩)
      refine wq_aload_n rfl rfl rfl ?_
      refine wq_dup rfl rfl ?_
      refine wm_getI rfl (by decide) ?_
      refine wq_iconst rfl rfl ?_
      refine wq_iaddZ rfl (T12.i 20 rfl) (wm_zlt (by decide)) (z := ((F10 0 20) + 1) % 4294967296) rfl ?_
      obtain ⟨y13, e14, h⟩ := od_letE h
      refine wq_top e14.symm ?_
      have p15 : y13 < 4294967296 := wd_lt e14 (Nat.mod_lt _ (by decide))
      obtain ⟨F16, e17, h⟩ := od_upE h
      refine wmE_put rfl (by decide) (wq_I p15) e17 ?_
      have T18 : wm_T F16 := wd_T e17 (T12.uf (f := 20) (c := 0) (v := y13) rfl (show y13 < 4294967296 from p15))
      obtain ⟨y19, e20, h⟩ := od_letE h
      have p21 : y19 < 4294967296 := wd_lt e20 (Nat.mod_lt _ (by decide))
      refine wq_iincZ rfl rfl hv3 (Or.inr ⟨_, rfl, rfl⟩) rfl (z := y19) e20.symm (L' := [36893488147419103232, v1, 73786976294838206464, y19, y2]) rfl ?_
      refine wq_goto rfl rfl ?_
      exact hr3 T18 hv1 p21 (wq_notL p4) h
def dk_21_3 (n : Nat) : Nat → wq_F → Nat → Nat → Option (Nat × wq_F)
  | 0 => fun _ _ _ => none
  | g + 1 => dk_21_3b n (dk_21_3 n g)
theorem dk_21_3T {d n : Nat} : ∀ g : Nat, ∀ ⦃u4 : Nat⦄ ⦃F : wq_F⦄ (hT : wm_T F) ⦃v1 : Nat⦄ (hv1 : ev_isL v1 = true) ⦃v3 : Nat⦄ (hv3 : v3 < 4294967296) (hu4 : ev_isL u4 = false) ⦃x : Nat × wq_F⦄ (h : dk_21_3 n g F v1 v3 = some x), wq (wq_cf (d + 0)) (ev_un al_mX12_word.2.2.2.2) none 3 [36893488147419103232, v1, 73786976294838206464, v3, u4] [] wm_sh F 0 0 (wkN wm_T wm_sh x)
  | 0 => by
    intro u4 F hT v1 hv1 v3 hv3 hu4 x h
    cases h
  | g + 1 => dk_21_3bT (dk_21_3T g)
/-- X12_word -/
def dk_21 (n : Nat) (F : wq_F) (a0 : Nat) : Option (Nat × wq_F) :=
  dk_21_3 n n F a0 56
theorem dkT_21 {d n : Nat} {F : wq_F} (hT : wm_T F) {a0 : Nat} (ha0 : ev_isL a0 = true) {x : Nat × wq_F} (h : dk_21 n F a0 = some x) : mq (d + 0 + 1) 21 [36893488147419103232, a0] wm_sh F (wkN wm_T wm_sh x) := by
  have e : ev_ent [36893488147419103232, a0] = [36893488147419103232, a0, 73786976294838206464] := by
    show 36893488147419103232 :: ev_ent [a0] = _
    rw [wd_entL ha0]
    rfl
  refine mq_of (maxL := 5) (rt := none) (code := (ev_un al_mX12_word.2.2.2.2)) (L := [36893488147419103232, a0, 73786976294838206464, 73786976294838206464, 73786976294838206464]) rfl (by rw [e]; exact Nat.le_of_ble_eq_true rfl) (by rw [e]; rfl) ?_
  unfold dk_21 at h
  refine wq_bipush rfl rfl ?_
  refine wq_istore_n rfl (by decide) (Nat.le_of_ble_eq_true rfl) (Or.inr ⟨_, rfl, rfl⟩) (L' := [36893488147419103232, a0, 73786976294838206464, 56, 73786976294838206464]) rfl ?_
  exact dk_21_3T n hT ha0 (by decide) rfl h
def dk_23_4b (n : Nat) (r4 : wq_F → Nat → Nat → Nat → Option (Nat × wq_F)) (F : wq_F) (v1 : Nat) (v2 : Nat) (v3 : Nat) : Option (Nat × wq_F) :=
  if ev_s v3 < ev_s v1 then
    od_g (v3 < 4200) <|
    od_let (((ev_oMul 31 v2) + (F 8 v3)) % 4294967296) fun y6 =>
    od_let ((v3 + 1) % 4294967296) fun y9 =>
    r4 F v1 y6 y9
  else
    od_let (ev_oAnd (ev_oXor v2 (ev_oUsh v2 10)) 1023) fun y2 =>
    some (y2, F)
theorem dk_23_4bT {d n : Nat} {r4 : wq_F → Nat → Nat → Nat → Option (Nat × wq_F)} (hr4 : ∀ ⦃F : wq_F⦄ (hT : wm_T F) ⦃v1 : Nat⦄ (hv1 : v1 < 4294967296) ⦃v2 : Nat⦄ (hv2 : v2 < 4294967296) ⦃v3 : Nat⦄ (hv3 : v3 < 4294967296) ⦃x : Nat × wq_F⦄ (h : r4 F v1 v2 v3 = some x), wq (wq_cf (d + 0)) (ev_un al_mX12_hashOf.2.2.2.2) (some .int) 4 [36893488147419103232, v1, v2, v3] [] wm_sh F 0 0 (wkI wm_T wm_sh x)) : ∀ ⦃F : wq_F⦄ (hT : wm_T F) ⦃v1 : Nat⦄ (hv1 : v1 < 4294967296) ⦃v2 : Nat⦄ (hv2 : v2 < 4294967296) ⦃v3 : Nat⦄ (hv3 : v3 < 4294967296) ⦃x : Nat × wq_F⦄ (h : dk_23_4b n r4 F v1 v2 v3 = some x), wq (wq_cf (d + 0)) (ev_un al_mX12_hashOf.2.2.2.2) (some .int) 4 [36893488147419103232, v1, v2, v3] [] wm_sh F 0 0 (wkI wm_T wm_sh x) := by
  intro F hT v1 hv1 v2 hv2 v3 hv3 x h
  unfold dk_23_4b at h
  refine wq_iload_n rfl rfl hv3 ?_
  refine wq_iload_n rfl rfl hv1 ?_
  refine wq_ic_ge rfl rfl hv3 hv1 (fun h1 => ?_) (fun h1 => ?_)
  · replace h := od_neg h (Nat.not_lt.mpr h1)
    refine wq_iload_n rfl rfl hv2 ?_
    refine wq_iload_n rfl rfl hv2 ?_
    refine wq_bipush rfl rfl ?_
    refine wq_iushr rfl hv2 (by decide) ?_
    refine wq_ixor rfl hv2 (wq_I_iushr hv2 (by decide)) ?_
    refine wq_sipush rfl rfl ?_
    refine wq_iand rfl (wq_I_ixor hv2 (wq_I_iushr hv2 (by decide))) (by decide) ?_
    obtain ⟨y2, e3, h⟩ := od_letE h
    refine wq_top e3.symm ?_
    have p4 : y2 < 4294967296 := wd_lt e3 (wq_I_iand (wq_I_ixor hv2 (wq_I_iushr hv2 (by decide))) (by decide))
    exact wq_iret rfl p4 rfl (wkOI h hT p4)
  · replace h := od_pos h h1
    refine wq_bipush rfl rfl ?_
    refine wq_iload_n rfl rfl hv2 ?_
    refine wq_imul rfl (by decide) hv2 ?_
    refine wq_aload_n rfl rfl rfl ?_
    refine wm_getR (v := 36893488147419103240) rfl (by decide) (hT.r 19 7 rfl) ?_
    refine wq_iload_n rfl rfl hv3 ?_
    obtain ⟨g5, h⟩ := od_gE h
    refine wq_baload (q := 8) (n := 4200) rfl rfl (by decide) g5 (by decide) ?_
    refine wq_iaddZ rfl (Nat.mod_lt _ (by decide)) (hT.ab (k := 8) rfl g5) (z := ((ev_oMul 31 v2) + (F 8 v3)) % 4294967296) rfl ?_
    obtain ⟨y6, e7, h⟩ := od_letE h
    refine wq_top e7.symm ?_
    have p8 : y6 < 4294967296 := wd_lt e7 (Nat.mod_lt _ (by decide))
    refine wq_istore_n rfl p8 (Nat.le_of_ble_eq_true rfl) (Or.inr ⟨_, rfl, (wq_notL hv1)⟩) (L' := [36893488147419103232, v1, y6, v3]) rfl ?_
    obtain ⟨y9, e10, h⟩ := od_letE h
    have p11 : y9 < 4294967296 := wd_lt e10 (Nat.mod_lt _ (by decide))
    refine wq_iincZ rfl rfl hv3 (Or.inr ⟨_, rfl, (wq_notL p8)⟩) rfl (z := y9) e10.symm (L' := [36893488147419103232, v1, y6, y9]) rfl ?_
    refine wq_goto rfl rfl ?_
    exact hr4 hT hv1 p8 p11 h
def dk_23_4 (n : Nat) : Nat → wq_F → Nat → Nat → Nat → Option (Nat × wq_F)
  | 0 => fun _ _ _ _ => none
  | g + 1 => dk_23_4b n (dk_23_4 n g)
theorem dk_23_4T {d n : Nat} : ∀ g : Nat, ∀ ⦃F : wq_F⦄ (hT : wm_T F) ⦃v1 : Nat⦄ (hv1 : v1 < 4294967296) ⦃v2 : Nat⦄ (hv2 : v2 < 4294967296) ⦃v3 : Nat⦄ (hv3 : v3 < 4294967296) ⦃x : Nat × wq_F⦄ (h : dk_23_4 n g F v1 v2 v3 = some x), wq (wq_cf (d + 0)) (ev_un al_mX12_hashOf.2.2.2.2) (some .int) 4 [36893488147419103232, v1, v2, v3] [] wm_sh F 0 0 (wkI wm_T wm_sh x)
  | 0 => by
    intro F hT v1 hv1 v2 hv2 v3 hv3 x h
    cases h
  | g + 1 => dk_23_4bT (dk_23_4T g)
/-- X12_hashOf -/
def dk_23 (n : Nat) (F : wq_F) (a0 : Nat) : Option (Nat × wq_F) :=
  dk_23_4 n n F a0 a0 0
theorem dkT_23 {d n : Nat} {F : wq_F} (hT : wm_T F) {a0 : Nat} (ha0 : a0 < 4294967296) {x : Nat × wq_F} (h : dk_23 n F a0 = some x) : mq (d + 0 + 1) 23 [36893488147419103232, a0] wm_sh F (wkI wm_T wm_sh x) := by
  have e : ev_ent [36893488147419103232, a0] = [36893488147419103232, a0] := by
    show 36893488147419103232 :: ev_ent [a0] = _
    rw [wm_entI ha0]
    rfl
  refine mq_of (maxL := 4) (rt := (some .int)) (code := (ev_un al_mX12_hashOf.2.2.2.2)) (L := [36893488147419103232, a0, 73786976294838206464, 73786976294838206464]) rfl (by rw [e]; exact Nat.le_of_ble_eq_true rfl) (by rw [e]; rfl) ?_
  unfold dk_23 at h
  refine wq_iload_n rfl rfl ha0 ?_
  refine wq_istore_n rfl ha0 (Nat.le_of_ble_eq_true rfl) (Or.inr ⟨_, rfl, (wq_notL ha0)⟩) (L' := [36893488147419103232, a0, a0, 73786976294838206464]) rfl ?_
  refine wq_iconst rfl rfl ?_
  refine wq_istore_n rfl (wm_zlt (by decide)) (Nat.le_of_ble_eq_true rfl) (Or.inr ⟨_, rfl, (wq_notL ha0)⟩) (L' := [36893488147419103232, a0, a0, 0]) rfl ?_
  exact dk_23_4T n hT ha0 ha0 (wm_zlt (by decide)) h
def dk_22_196b (n : Nat) (r196 : wq_F → Nat → Nat → Option (Nat × wq_F)) (F : wq_F) (v3 : Nat) (v4 : Nat) : Option (Nat × wq_F) :=
  if ev_s v4 < ev_s (F 0 20) then
    od_g (v4 < 4200) <|
    od_g (((F 0 8) + v4) % 4294967296 < 40000) <|
    od_up F 2 (((F 0 8) + v4) % 4294967296) ((ev_b8 (F 8 v4))) fun F10 =>
    od_let ((v4 + 1) % 4294967296) fun y13 =>
    r196 F10 v3 y13
  else
    od_let (((F 0 8) + (F 0 20)) % 4294967296) fun y2 =>
    od_up F 0 8 y2 fun F5 =>
    some (v3, F5)
theorem dk_22_196bT {d n : Nat} {r196 : wq_F → Nat → Nat → Option (Nat × wq_F)} (hr196 : ∀ ⦃u1 : Nat⦄ ⦃u2 : Nat⦄ ⦃u5 : Nat⦄ ⦃F : wq_F⦄ (hT : wm_T F) ⦃v3 : Nat⦄ (hv3 : v3 < 4294967296) ⦃v4 : Nat⦄ (hv4 : v4 < 4294967296) (hu1 : ev_isL u1 = false) (hu2 : ev_isL u2 = false) (hu5 : ev_isL u5 = false) ⦃x : Nat × wq_F⦄ (h : r196 F v3 v4 = some x), wq (wq_cf (d + 1)) (ev_un al_mX12_intern.2.2.2.2) (some .int) 196 [36893488147419103232, u1, u2, v3, v4, u5] [] wm_sh F 0 0 (wkI wm_T wm_sh x)) : ∀ ⦃u1 : Nat⦄ ⦃u2 : Nat⦄ ⦃u5 : Nat⦄ ⦃F : wq_F⦄ (hT : wm_T F) ⦃v3 : Nat⦄ (hv3 : v3 < 4294967296) ⦃v4 : Nat⦄ (hv4 : v4 < 4294967296) (hu1 : ev_isL u1 = false) (hu2 : ev_isL u2 = false) (hu5 : ev_isL u5 = false) ⦃x : Nat × wq_F⦄ (h : dk_22_196b n r196 F v3 v4 = some x), wq (wq_cf (d + 1)) (ev_un al_mX12_intern.2.2.2.2) (some .int) 196 [36893488147419103232, u1, u2, v3, v4, u5] [] wm_sh F 0 0 (wkI wm_T wm_sh x) := by
  intro u1 u2 u5 F hT v3 hv3 v4 hv4 hu1 hu2 hu5 x h
  unfold dk_22_196b at h
  refine wq_iload rfl rfl hv4 ?_
  refine wq_aload_n rfl rfl rfl ?_
  refine wm_getI rfl (by decide) ?_
  refine wq_ic_ge rfl rfl hv4 (hT.i 20 rfl) (fun h1 => ?_) (fun h1 => ?_)
  · replace h := od_neg h (Nat.not_lt.mpr h1)
    refine wq_aload_n rfl rfl rfl ?_
    refine wq_aload_n rfl rfl rfl ?_
    refine wm_getI rfl (by decide) ?_
    refine wq_aload_n rfl rfl rfl ?_
    refine wm_getI rfl (by decide) ?_
    refine wq_iaddZ rfl (hT.i 8 rfl) (hT.i 20 rfl) (z := ((F 0 8) + (F 0 20)) % 4294967296) rfl ?_
    obtain ⟨y2, e3, h⟩ := od_letE h
    refine wq_top e3.symm ?_
    have p4 : y2 < 4294967296 := wd_lt e3 (Nat.mod_lt _ (by decide))
    obtain ⟨F5, e6, h⟩ := od_upE h
    refine wmE_put rfl (by decide) (wq_I p4) e6 ?_
    have T7 : wm_T F5 := wd_T e6 (hT.uf (f := 8) (c := 0) (v := y2) rfl (show y2 < 4294967296 from p4))
    refine wq_iload_n rfl rfl hv3 ?_
    exact wq_iret rfl hv3 rfl (wkOI h T7 hv3)
  · replace h := od_pos h h1
    refine wq_aload_n rfl rfl rfl ?_
    refine wm_getR (v := 36893488147419103234) rfl (by decide) (hT.r 7 1 rfl) ?_
    refine wq_aload_n rfl rfl rfl ?_
    refine wm_getI rfl (by decide) ?_
    refine wq_iload rfl rfl hv4 ?_
    refine wq_iaddZ rfl (hT.i 8 rfl) hv4 (z := ((F 0 8) + v4) % 4294967296) rfl ?_
    refine wq_aload_n rfl rfl rfl ?_
    refine wm_getR (v := 36893488147419103240) rfl (by decide) (hT.r 19 7 rfl) ?_
    refine wq_iload rfl rfl hv4 ?_
    obtain ⟨g8, h⟩ := od_gE h
    refine wq_baload (q := 8) (n := 4200) rfl rfl (by decide) g8 (by decide) ?_
    obtain ⟨g9, h⟩ := od_gE h
    obtain ⟨F10, e11, h⟩ := od_upE h
    refine wd_bastore (q := 2) (n := 40000) rfl rfl (by decide) g9 (by decide) (hT.ab (k := 8) rfl g8) e11 ?_
    have T12 : wm_T F10 := wd_T e11 (hT.ua (k := 2) (kd := 1001) (n := 40000) (i := ((F 0 8) + v4) % 4294967296) (v := (ev_b8 (F 8 v4))) rfl (by decide) g9 ⟨ev_b8_lt _, wm_b8b8 _⟩)
    obtain ⟨y13, e14, h⟩ := od_letE h
    have p15 : y13 < 4294967296 := wd_lt e14 (Nat.mod_lt _ (by decide))
    refine wq_iincZ rfl rfl hv4 (Or.inr ⟨_, rfl, (wq_notL hv3)⟩) rfl (z := y13) e14.symm (L' := [36893488147419103232, u1, u2, v3, y13, u5]) rfl ?_
    refine wq_goto rfl rfl ?_
    exact hr196 T12 hv3 p15 hu1 hu2 hu5 h
def dk_22_196 (n : Nat) : Nat → wq_F → Nat → Nat → Option (Nat × wq_F)
  | 0 => fun _ _ _ => none
  | g + 1 => dk_22_196b n (dk_22_196 n g)
theorem dk_22_196T {d n : Nat} : ∀ g : Nat, ∀ ⦃u1 : Nat⦄ ⦃u2 : Nat⦄ ⦃u5 : Nat⦄ ⦃F : wq_F⦄ (hT : wm_T F) ⦃v3 : Nat⦄ (hv3 : v3 < 4294967296) ⦃v4 : Nat⦄ (hv4 : v4 < 4294967296) (hu1 : ev_isL u1 = false) (hu2 : ev_isL u2 = false) (hu5 : ev_isL u5 = false) ⦃x : Nat × wq_F⦄ (h : dk_22_196 n g F v3 v4 = some x), wq (wq_cf (d + 1)) (ev_un al_mX12_intern.2.2.2.2) (some .int) 196 [36893488147419103232, u1, u2, v3, v4, u5] [] wm_sh F 0 0 (wkI wm_T wm_sh x)
  | 0 => by
    intro u1 u2 u5 F hT v3 hv3 v4 hv4 hu1 hu2 hu5 x h
    cases h
  | g + 1 => dk_22_196bT (dk_22_196T g)
def dk_22_94 (n : Nat) (r16 : wq_F → Nat → Nat → Nat → Option (Nat × wq_F)) (F : wq_F) (v1 : Nat) (v2 : Nat) (v3 : Nat) (v4 : Nat) : Option (Nat × wq_F) :=
  if v4 = 0 then
    od_g (v3 < 3000) <|
    r16 F v1 v2 (F 6 v3)
  else
    if v1 = 1 then
      od_g (v3 < 3000) <|
      od_up F 5 v3 1 fun F10 =>
      some (v3, F10)
    else
      od_g (v3 < 3000) <|
      od_g (v3 < 3000) <|
      od_up F 5 v3 (F 5 v3) fun F6 =>
      some (v3, F6)
theorem dk_22_94T {d n : Nat} {r16 : wq_F → Nat → Nat → Nat → Option (Nat × wq_F)} (hr16 : ∀ ⦃u4 : Nat⦄ ⦃u5 : Nat⦄ ⦃F : wq_F⦄ (hT : wm_T F) ⦃v1 : Nat⦄ (hv1 : v1 < 4294967296) ⦃v2 : Nat⦄ (hv2 : v2 < 4294967296) ⦃v3 : Nat⦄ (hv3 : v3 < 4294967296) (hu4 : ev_isL u4 = false) (hu5 : ev_isL u5 = false) ⦃x : Nat × wq_F⦄ (h : r16 F v1 v2 v3 = some x), wq (wq_cf (d + 1)) (ev_un al_mX12_intern.2.2.2.2) (some .int) 16 [36893488147419103232, v1, v2, v3, u4, u5] [] wm_sh F 0 0 (wkI wm_T wm_sh x)) : ∀ ⦃u5 : Nat⦄ ⦃F : wq_F⦄ (hT : wm_T F) ⦃v1 : Nat⦄ (hv1 : v1 < 4294967296) ⦃v2 : Nat⦄ (hv2 : v2 < 4294967296) ⦃v3 : Nat⦄ (hv3 : v3 < 4294967296) ⦃v4 : Nat⦄ (hv4 : v4 < 2) (hu5 : ev_isL u5 = false) ⦃x : Nat × wq_F⦄ (h : dk_22_94 n r16 F v1 v2 v3 v4 = some x), wq (wq_cf (d + 1)) (ev_un al_mX12_intern.2.2.2.2) (some .int) 94 [36893488147419103232, v1, v2, v3, v4, u5] [] wm_sh F 0 0 (wkI wm_T wm_sh x) := by
  intro u5 F hT v1 hv1 v2 hv2 v3 hv3 v4 hv4 hu5 x h
  unfold dk_22_94 at h
  refine wq_iload rfl rfl (wm_zlt hv4) ?_
  refine wq_if_eq rfl rfl (wm_zlt hv4) (fun h1 => ?_) (fun h1 => ?_)
  · replace h := od_pos h h1
    refine wq_aload_n rfl rfl rfl ?_
    refine wm_getR (v := 36893488147419103238) rfl (by decide) (hT.r 12 5 rfl) ?_
    refine wq_iload_n rfl rfl hv3 ?_
    obtain ⟨g2, h⟩ := od_gE h
    refine wq_iaload (q := 6) (n := 3000) rfl rfl (by decide) g2 (by decide) ?_
    refine wq_istore_n rfl (hT.ai (k := 6) rfl g2) (Nat.le_of_ble_eq_true rfl) (Or.inr ⟨_, rfl, (wq_notL hv2)⟩) (L' := [36893488147419103232, v1, v2, F 6 v3, v4, u5]) rfl ?_
    refine wq_goto rfl rfl ?_
    exact hr16 hT hv1 hv2 (hT.ai (k := 6) rfl g2) (wq_notL (wm_zlt hv4)) hu5 h
  · replace h := od_neg h h1
    refine wq_aload_n rfl rfl rfl ?_
    refine wm_getR (v := 36893488147419103237) rfl (by decide) (hT.r 11 4 rfl) ?_
    refine wq_iload_n rfl rfl hv3 ?_
    refine wq_iload_n rfl rfl hv1 ?_
    refine wq_iconst rfl rfl ?_
    refine wq_ic_ne rfl rfl hv1 (wm_zlt (by decide)) (fun h3 => ?_) (fun h3 => ?_)
    · replace h := od_neg h h3
      refine wq_aload_n rfl rfl rfl ?_
      refine wm_getR (v := 36893488147419103237) rfl (by decide) (hT.r 11 4 rfl) ?_
      refine wq_iload_n rfl rfl hv3 ?_
      obtain ⟨g4, h⟩ := od_gE h
      refine wq_iaload (q := 5) (n := 3000) rfl rfl (by decide) g4 (by decide) ?_
      obtain ⟨g5, h⟩ := od_gE h
      obtain ⟨F6, e7, h⟩ := od_upE h
      refine wd_iastore (q := 5) (n := 3000) rfl rfl (by decide) g5 (by decide) (hT.ai (k := 5) rfl g4) e7 ?_
      have T8 : wm_T F6 := wd_T e7 (hT.ua (k := 5) (kd := 1000) (n := 3000) (i := v3) (v := F 5 v3) rfl (by decide) g5 (show F 5 v3 < 4294967296 from (hT.ai (k := 5) rfl g4)))
      refine wq_iload_n rfl rfl hv3 ?_
      exact wq_iret rfl hv3 rfl (wkOI h T8 hv3)
    · replace h := od_pos h h3
      refine wq_iconst rfl rfl ?_
      refine wq_goto rfl rfl ?_
      obtain ⟨g9, h⟩ := od_gE h
      obtain ⟨F10, e11, h⟩ := od_upE h
      refine wd_iastore (q := 5) (n := 3000) rfl rfl (by decide) g9 (by decide) (wm_zlt (by decide)) e11 ?_
      have T12 : wm_T F10 := wd_T e11 (hT.ua (k := 5) (kd := 1000) (n := 3000) (i := v3) (v := 1) rfl (by decide) g9 (show 1 < 4294967296 from (wm_zlt (by decide))))
      refine wq_iload_n rfl rfl hv3 ?_
      exact wq_iret rfl hv3 rfl (wkOI h T12 hv3)
def dk_22_43b (n : Nat) (r16 : wq_F → Nat → Nat → Nat → Option (Nat × wq_F)) (r43 : wq_F → Nat → Nat → Nat → Nat → Nat → Option (Nat × wq_F)) (F : wq_F) (v1 : Nat) (v2 : Nat) (v3 : Nat) (v4 : Nat) (v5 : Nat) : Option (Nat × wq_F) :=
  if ev_s v5 < ev_s (F 0 20) then
    if v4 = 0 then
      dk_22_94 n r16 F v1 v2 v3 v4
    else
      od_g (v3 < 3000) <|
      od_g (((F 3 v3) + v5) % 4294967296 < 40000) <|
      od_let (F 2 (((F 3 v3) + v5) % 4294967296)) fun y5 =>
      od_g (v5 < 4200) <|
      if y5 = (F 8 v5) then
        od_let ((v5 + 1) % 4294967296) fun y13 =>
        r43 F v1 v2 v3 1 y13
      else
        od_let ((v5 + 1) % 4294967296) fun y10 =>
        r43 F v1 v2 v3 0 y10
  else
    dk_22_94 n r16 F v1 v2 v3 v4
theorem dk_22_43bT {d n : Nat} {r16 : wq_F → Nat → Nat → Nat → Option (Nat × wq_F)} {r43 : wq_F → Nat → Nat → Nat → Nat → Nat → Option (Nat × wq_F)} (hr16 : ∀ ⦃u4 : Nat⦄ ⦃u5 : Nat⦄ ⦃F : wq_F⦄ (hT : wm_T F) ⦃v1 : Nat⦄ (hv1 : v1 < 4294967296) ⦃v2 : Nat⦄ (hv2 : v2 < 4294967296) ⦃v3 : Nat⦄ (hv3 : v3 < 4294967296) (hu4 : ev_isL u4 = false) (hu5 : ev_isL u5 = false) ⦃x : Nat × wq_F⦄ (h : r16 F v1 v2 v3 = some x), wq (wq_cf (d + 1)) (ev_un al_mX12_intern.2.2.2.2) (some .int) 16 [36893488147419103232, v1, v2, v3, u4, u5] [] wm_sh F 0 0 (wkI wm_T wm_sh x)) (hr43 : ∀ ⦃F : wq_F⦄ (hT : wm_T F) ⦃v1 : Nat⦄ (hv1 : v1 < 4294967296) ⦃v2 : Nat⦄ (hv2 : v2 < 4294967296) ⦃v3 : Nat⦄ (hv3 : v3 < 4294967296) ⦃v4 : Nat⦄ (hv4 : v4 < 2) ⦃v5 : Nat⦄ (hv5 : v5 < 4294967296) ⦃x : Nat × wq_F⦄ (h : r43 F v1 v2 v3 v4 v5 = some x), wq (wq_cf (d + 1)) (ev_un al_mX12_intern.2.2.2.2) (some .int) 43 [36893488147419103232, v1, v2, v3, v4, v5] [] wm_sh F 0 0 (wkI wm_T wm_sh x)) : ∀ ⦃F : wq_F⦄ (hT : wm_T F) ⦃v1 : Nat⦄ (hv1 : v1 < 4294967296) ⦃v2 : Nat⦄ (hv2 : v2 < 4294967296) ⦃v3 : Nat⦄ (hv3 : v3 < 4294967296) ⦃v4 : Nat⦄ (hv4 : v4 < 2) ⦃v5 : Nat⦄ (hv5 : v5 < 4294967296) ⦃x : Nat × wq_F⦄ (h : dk_22_43b n r16 r43 F v1 v2 v3 v4 v5 = some x), wq (wq_cf (d + 1)) (ev_un al_mX12_intern.2.2.2.2) (some .int) 43 [36893488147419103232, v1, v2, v3, v4, v5] [] wm_sh F 0 0 (wkI wm_T wm_sh x) := by
  intro F hT v1 hv1 v2 hv2 v3 hv3 v4 hv4 v5 hv5 x h
  unfold dk_22_43b at h
  refine wq_iload rfl rfl hv5 ?_
  refine wq_aload_n rfl rfl rfl ?_
  refine wm_getI rfl (by decide) ?_
  refine wq_ic_ge rfl rfl hv5 (hT.i 20 rfl) (fun h1 => ?_) (fun h1 => ?_)
  · replace h := od_neg h (Nat.not_lt.mpr h1)
    exact dk_22_94T hr16 hT hv1 hv2 hv3 hv4 (wq_notL hv5) h
  · replace h := od_pos h h1
    refine wq_iload rfl rfl (wm_zlt hv4) ?_
    refine wq_if_eq rfl rfl (wm_zlt hv4) (fun h2 => ?_) (fun h2 => ?_)
    · replace h := od_pos h h2
      exact dk_22_94T hr16 hT hv1 hv2 hv3 hv4 (wq_notL hv5) h
    · replace h := od_neg h h2
      refine wq_aload_n rfl rfl rfl ?_
      refine wm_getR (v := 36893488147419103234) rfl (by decide) (hT.r 7 1 rfl) ?_
      refine wq_aload_n rfl rfl rfl ?_
      refine wm_getR (v := 36893488147419103235) rfl (by decide) (hT.r 9 2 rfl) ?_
      refine wq_iload_n rfl rfl hv3 ?_
      obtain ⟨g3, h⟩ := od_gE h
      refine wq_iaload (q := 3) (n := 3000) rfl rfl (by decide) g3 (by decide) ?_
      refine wq_iload rfl rfl hv5 ?_
      refine wq_iaddZ rfl (hT.ai (k := 3) rfl g3) hv5 (z := ((F 3 v3) + v5) % 4294967296) rfl ?_
      obtain ⟨g4, h⟩ := od_gE h
      refine wq_baload (q := 2) (n := 40000) rfl rfl (by decide) g4 (by decide) ?_
      obtain ⟨y5, e6, h⟩ := od_letE h
      refine wq_top e6.symm ?_
      have p7 : y5 < 4294967296 := wd_lt e6 (hT.ab (k := 2) rfl g4)
      refine wq_aload_n rfl rfl rfl ?_
      refine wm_getR (v := 36893488147419103240) rfl (by decide) (hT.r 19 7 rfl) ?_
      refine wq_iload rfl rfl hv5 ?_
      obtain ⟨g8, h⟩ := od_gE h
      refine wq_baload (q := 8) (n := 4200) rfl rfl (by decide) g8 (by decide) ?_
      refine wq_ic_ne rfl rfl p7 (hT.ab (k := 8) rfl g8) (fun h9 => ?_) (fun h9 => ?_)
      · replace h := od_neg h h9
        refine wq_iconst rfl rfl ?_
        refine wq_istore rfl (wm_zlt (by decide)) (Nat.le_of_ble_eq_true rfl) (Or.inr ⟨_, rfl, (wq_notL hv3)⟩) (L' := [36893488147419103232, v1, v2, v3, 0, v5]) rfl ?_
        obtain ⟨y10, e11, h⟩ := od_letE h
        have p12 : y10 < 4294967296 := wd_lt e11 (Nat.mod_lt _ (by decide))
        refine wq_iincZ rfl rfl hv5 (Or.inr ⟨_, rfl, (wq_notL (wm_zlt (by decide)))⟩) rfl (z := y10) e11.symm (L' := [36893488147419103232, v1, v2, v3, 0, y10]) rfl ?_
        refine wq_goto rfl rfl ?_
        exact hr43 hT hv1 hv2 hv3 (by decide) p12 h
      · replace h := od_pos h h9
        refine wq_iconst rfl rfl ?_
        refine wq_goto rfl rfl ?_
        refine wq_istore rfl (wm_zlt (by decide)) (Nat.le_of_ble_eq_true rfl) (Or.inr ⟨_, rfl, (wq_notL hv3)⟩) (L' := [36893488147419103232, v1, v2, v3, 1, v5]) rfl ?_
        obtain ⟨y13, e14, h⟩ := od_letE h
        have p15 : y13 < 4294967296 := wd_lt e14 (Nat.mod_lt _ (by decide))
        refine wq_iincZ rfl rfl hv5 (Or.inr ⟨_, rfl, (wq_notL (wm_zlt (by decide)))⟩) rfl (z := y13) e14.symm (L' := [36893488147419103232, v1, v2, v3, 1, y13]) rfl ?_
        refine wq_goto rfl rfl ?_
        exact hr43 hT hv1 hv2 hv3 (by decide) p15 h
def dk_22_43 (n : Nat) (r16 : wq_F → Nat → Nat → Nat → Option (Nat × wq_F)) : Nat → wq_F → Nat → Nat → Nat → Nat → Nat → Option (Nat × wq_F)
  | 0 => fun _ _ _ _ _ _ => none
  | g + 1 => dk_22_43b n r16 (dk_22_43 n r16 g)
theorem dk_22_43T {d n : Nat} {r16 : wq_F → Nat → Nat → Nat → Option (Nat × wq_F)} (hr16 : ∀ ⦃u4 : Nat⦄ ⦃u5 : Nat⦄ ⦃F : wq_F⦄ (hT : wm_T F) ⦃v1 : Nat⦄ (hv1 : v1 < 4294967296) ⦃v2 : Nat⦄ (hv2 : v2 < 4294967296) ⦃v3 : Nat⦄ (hv3 : v3 < 4294967296) (hu4 : ev_isL u4 = false) (hu5 : ev_isL u5 = false) ⦃x : Nat × wq_F⦄ (h : r16 F v1 v2 v3 = some x), wq (wq_cf (d + 1)) (ev_un al_mX12_intern.2.2.2.2) (some .int) 16 [36893488147419103232, v1, v2, v3, u4, u5] [] wm_sh F 0 0 (wkI wm_T wm_sh x)) : ∀ g : Nat, ∀ ⦃F : wq_F⦄ (hT : wm_T F) ⦃v1 : Nat⦄ (hv1 : v1 < 4294967296) ⦃v2 : Nat⦄ (hv2 : v2 < 4294967296) ⦃v3 : Nat⦄ (hv3 : v3 < 4294967296) ⦃v4 : Nat⦄ (hv4 : v4 < 2) ⦃v5 : Nat⦄ (hv5 : v5 < 4294967296) ⦃x : Nat × wq_F⦄ (h : dk_22_43 n r16 g F v1 v2 v3 v4 v5 = some x), wq (wq_cf (d + 1)) (ev_un al_mX12_intern.2.2.2.2) (some .int) 43 [36893488147419103232, v1, v2, v3, v4, v5] [] wm_sh F 0 0 (wkI wm_T wm_sh x)
  | 0 => by
    intro F hT v1 hv1 v2 hv2 v3 hv3 v4 hv4 v5 hv5 x h
    cases h
  | g + 1 => dk_22_43bT hr16 (dk_22_43T hr16 g)
def dk_22_16b (n : Nat) (r16 : wq_F → Nat → Nat → Nat → Option (Nat × wq_F)) (F : wq_F) (v1 : Nat) (v2 : Nat) (v3 : Nat) : Option (Nat × wq_F) :=
  if 2147483648 ≤ v3 then
    od_up F 0 14 (((F 0 14) + 1) % 4294967296) fun F2 =>
    od_g (F 0 14 < 3000) <|
    od_up F2 3 (F 0 14) (F2 0 8) fun F6 =>
    od_g (F 0 14 < 3000) <|
    od_up F6 4 (F 0 14) (F6 0 20) fun F10 =>
    od_g (F 0 14 < 3000) <|
    od_up F10 5 (F 0 14) v1 fun F14 =>
    od_g (v2 < 1024) <|
    od_g (F 0 14 < 3000) <|
    od_up F14 6 (F 0 14) (F14 7 v2) fun F19 =>
    od_g (v2 < 1024) <|
    od_up F19 7 v2 (F 0 14) fun F23 =>
    dk_22_196 n n F23 (F 0 14) 0
  else
    od_g (v3 < 3000) <|
    if (F 4 v3) = (F 0 20) then
      dk_22_43 n r16 n F v1 v2 v3 1 0
    else
      dk_22_43 n r16 n F v1 v2 v3 0 0
theorem dk_22_16bT {d n : Nat} {r16 : wq_F → Nat → Nat → Nat → Option (Nat × wq_F)} (hr16 : ∀ ⦃u4 : Nat⦄ ⦃u5 : Nat⦄ ⦃F : wq_F⦄ (hT : wm_T F) ⦃v1 : Nat⦄ (hv1 : v1 < 4294967296) ⦃v2 : Nat⦄ (hv2 : v2 < 4294967296) ⦃v3 : Nat⦄ (hv3 : v3 < 4294967296) (hu4 : ev_isL u4 = false) (hu5 : ev_isL u5 = false) ⦃x : Nat × wq_F⦄ (h : r16 F v1 v2 v3 = some x), wq (wq_cf (d + 1)) (ev_un al_mX12_intern.2.2.2.2) (some .int) 16 [36893488147419103232, v1, v2, v3, u4, u5] [] wm_sh F 0 0 (wkI wm_T wm_sh x)) : ∀ ⦃u4 : Nat⦄ ⦃u5 : Nat⦄ ⦃F : wq_F⦄ (hT : wm_T F) ⦃v1 : Nat⦄ (hv1 : v1 < 4294967296) ⦃v2 : Nat⦄ (hv2 : v2 < 4294967296) ⦃v3 : Nat⦄ (hv3 : v3 < 4294967296) (hu4 : ev_isL u4 = false) (hu5 : ev_isL u5 = false) ⦃x : Nat × wq_F⦄ (h : dk_22_16b n r16 F v1 v2 v3 = some x), wq (wq_cf (d + 1)) (ev_un al_mX12_intern.2.2.2.2) (some .int) 16 [36893488147419103232, v1, v2, v3, u4, u5] [] wm_sh F 0 0 (wkI wm_T wm_sh x) := by
  intro u4 u5 F hT v1 hv1 v2 hv2 v3 hv3 hu4 hu5 x h
  unfold dk_22_16b at h
  refine wq_iload_n rfl rfl hv3 ?_
  refine wq_if_lt rfl rfl hv3 (fun h1 => ?_) (fun h1 => ?_)
  · replace h := od_pos h h1
    refine wq_aload_n rfl rfl rfl ?_
    refine wm_getI rfl (by decide) ?_
    refine wq_istore_n rfl (hT.i 14 rfl) (Nat.le_of_ble_eq_true rfl) (Or.inr ⟨_, rfl, (wq_notL hv2)⟩) (L' := [36893488147419103232, v1, v2, F 0 14, u4, u5]) rfl ?_
    refine wq_aload_n rfl rfl rfl ?_
    refine wq_dup rfl rfl ?_
    refine wm_getI rfl (by decide) ?_
    refine wq_iconst rfl rfl ?_
    refine wq_iaddZ rfl (hT.i 14 rfl) (wm_zlt (by decide)) (z := ((F 0 14) + 1) % 4294967296) rfl ?_
    obtain ⟨F2, e3, h⟩ := od_upE h
    refine wmE_put rfl (by decide) (wq_I (Nat.mod_lt _ (by decide))) e3 ?_
    have T4 : wm_T F2 := wd_T e3 (hT.uf (f := 14) (c := 0) (v := ((F 0 14) + 1) % 4294967296) rfl (show ((F 0 14) + 1) % 4294967296 < 4294967296 from (Nat.mod_lt _ (by decide))))
    refine wq_aload_n rfl rfl rfl ?_
    refine wm_getR (v := 36893488147419103235) rfl (by decide) (T4.r 9 2 rfl) ?_
    refine wq_iload_n rfl rfl (hT.i 14 rfl) ?_
    refine wq_aload_n rfl rfl rfl ?_
    refine wm_getI rfl (by decide) ?_
    obtain ⟨g5, h⟩ := od_gE h
    obtain ⟨F6, e7, h⟩ := od_upE h
    refine wd_iastore (q := 3) (n := 3000) rfl rfl (by decide) g5 (by decide) (T4.i 8 rfl) e7 ?_
    have T8 : wm_T F6 := wd_T e7 (T4.ua (k := 3) (kd := 1000) (n := 3000) (i := F 0 14) (v := F2 0 8) rfl (by decide) g5 (show F2 0 8 < 4294967296 from (T4.i 8 rfl)))
    refine wq_aload_n rfl rfl rfl ?_
    refine wm_getR (v := 36893488147419103236) rfl (by decide) (T8.r 10 3 rfl) ?_
    refine wq_iload_n rfl rfl (hT.i 14 rfl) ?_
    refine wq_aload_n rfl rfl rfl ?_
    refine wm_getI rfl (by decide) ?_
    obtain ⟨g9, h⟩ := od_gE h
    obtain ⟨F10, e11, h⟩ := od_upE h
    refine wd_iastore (q := 4) (n := 3000) rfl rfl (by decide) g9 (by decide) (T8.i 20 rfl) e11 ?_
    have T12 : wm_T F10 := wd_T e11 (T8.ua (k := 4) (kd := 1000) (n := 3000) (i := F 0 14) (v := F6 0 20) rfl (by decide) g9 (show F6 0 20 < 4294967296 from (T8.i 20 rfl)))
    refine wq_aload_n rfl rfl rfl ?_
    refine wm_getR (v := 36893488147419103237) rfl (by decide) (T12.r 11 4 rfl) ?_
    refine wq_iload_n rfl rfl (hT.i 14 rfl) ?_
    refine wq_iload_n rfl rfl hv1 ?_
    obtain ⟨g13, h⟩ := od_gE h
    obtain ⟨F14, e15, h⟩ := od_upE h
    refine wd_iastore (q := 5) (n := 3000) rfl rfl (by decide) g13 (by decide) hv1 e15 ?_
    have T16 : wm_T F14 := wd_T e15 (T12.ua (k := 5) (kd := 1000) (n := 3000) (i := F 0 14) (v := v1) rfl (by decide) g13 (show v1 < 4294967296 from hv1))
    refine wq_aload_n rfl rfl rfl ?_
    refine wm_getR (v := 36893488147419103238) rfl (by decide) (T16.r 12 5 rfl) ?_
    refine wq_iload_n rfl rfl (hT.i 14 rfl) ?_
    refine wq_aload_n rfl rfl rfl ?_
    refine wm_getR (v := 36893488147419103239) rfl (by decide) (T16.r 13 6 rfl) ?_
    refine wq_iload_n rfl rfl hv2 ?_
    obtain ⟨g17, h⟩ := od_gE h
    refine wq_iaload (q := 7) (n := 1024) rfl rfl (by decide) g17 (by decide) ?_
    obtain ⟨g18, h⟩ := od_gE h
    obtain ⟨F19, e20, h⟩ := od_upE h
    refine wd_iastore (q := 6) (n := 3000) rfl rfl (by decide) g18 (by decide) (T16.ai (k := 7) rfl g17) e20 ?_
    have T21 : wm_T F19 := wd_T e20 (T16.ua (k := 6) (kd := 1000) (n := 3000) (i := F 0 14) (v := F14 7 v2) rfl (by decide) g18 (show F14 7 v2 < 4294967296 from (T16.ai (k := 7) rfl g17)))
    refine wq_aload_n rfl rfl rfl ?_
    refine wm_getR (v := 36893488147419103239) rfl (by decide) (T21.r 13 6 rfl) ?_
    refine wq_iload_n rfl rfl hv2 ?_
    refine wq_iload_n rfl rfl (hT.i 14 rfl) ?_
    obtain ⟨g22, h⟩ := od_gE h
    obtain ⟨F23, e24, h⟩ := od_upE h
    refine wd_iastore (q := 7) (n := 1024) rfl rfl (by decide) g22 (by decide) (hT.i 14 rfl) e24 ?_
    have T25 : wm_T F23 := wd_T e24 (T21.ua (k := 7) (kd := 1000) (n := 1024) (i := v2) (v := F 0 14) rfl (by decide) g22 (show F 0 14 < 4294967296 from (hT.i 14 rfl)))
    refine wq_iconst rfl rfl ?_
    refine wq_istore rfl (wm_zlt (by decide)) (Nat.le_of_ble_eq_true rfl) (Or.inr ⟨_, rfl, (wq_notL (hT.i 14 rfl))⟩) (L' := [36893488147419103232, v1, v2, F 0 14, 0, u5]) rfl ?_
    exact dk_22_196T n T25 (hT.i 14 rfl) (wm_zlt (by decide)) (wq_notL hv1) (wq_notL hv2) hu5 h
  · replace h := od_neg h (Nat.not_le.mpr h1)
    refine wq_aload_n rfl rfl rfl ?_
    refine wm_getR (v := 36893488147419103236) rfl (by decide) (hT.r 10 3 rfl) ?_
    refine wq_iload_n rfl rfl hv3 ?_
    obtain ⟨g26, h⟩ := od_gE h
    refine wq_iaload (q := 4) (n := 3000) rfl rfl (by decide) g26 (by decide) ?_
    refine wq_aload_n rfl rfl rfl ?_
    refine wm_getI rfl (by decide) ?_
    refine wq_ic_ne rfl rfl (hT.ai (k := 4) rfl g26) (hT.i 20 rfl) (fun h27 => ?_) (fun h27 => ?_)
    · replace h := od_neg h h27
      refine wq_iconst rfl rfl ?_
      refine wq_istore rfl (wm_zlt (by decide)) (Nat.le_of_ble_eq_true rfl) (Or.inr ⟨_, rfl, (wq_notL hv3)⟩) (L' := [36893488147419103232, v1, v2, v3, 0, u5]) rfl ?_
      refine wq_iconst rfl rfl ?_
      refine wq_istore rfl (wm_zlt (by decide)) (Nat.le_of_ble_eq_true rfl) (Or.inr ⟨_, rfl, (wq_notL (wm_zlt (by decide)))⟩) (L' := [36893488147419103232, v1, v2, v3, 0, 0]) rfl ?_
      exact dk_22_43T hr16 n hT hv1 hv2 hv3 (by decide) (wm_zlt (by decide)) h
    · replace h := od_pos h h27
      refine wq_iconst rfl rfl ?_
      refine wq_goto rfl rfl ?_
      refine wq_istore rfl (wm_zlt (by decide)) (Nat.le_of_ble_eq_true rfl) (Or.inr ⟨_, rfl, (wq_notL hv3)⟩) (L' := [36893488147419103232, v1, v2, v3, 1, u5]) rfl ?_
      refine wq_iconst rfl rfl ?_
      refine wq_istore rfl (wm_zlt (by decide)) (Nat.le_of_ble_eq_true rfl) (Or.inr ⟨_, rfl, (wq_notL (wm_zlt (by decide)))⟩) (L' := [36893488147419103232, v1, v2, v3, 1, 0]) rfl ?_
      exact dk_22_43T hr16 n hT hv1 hv2 hv3 (by decide) (wm_zlt (by decide)) h
def dk_22_16 (n : Nat) : Nat → wq_F → Nat → Nat → Nat → Option (Nat × wq_F)
  | 0 => fun _ _ _ _ => none
  | g + 1 => dk_22_16b n (dk_22_16 n g)
theorem dk_22_16T {d n : Nat} : ∀ g : Nat, ∀ ⦃u4 : Nat⦄ ⦃u5 : Nat⦄ ⦃F : wq_F⦄ (hT : wm_T F) ⦃v1 : Nat⦄ (hv1 : v1 < 4294967296) ⦃v2 : Nat⦄ (hv2 : v2 < 4294967296) ⦃v3 : Nat⦄ (hv3 : v3 < 4294967296) (hu4 : ev_isL u4 = false) (hu5 : ev_isL u5 = false) ⦃x : Nat × wq_F⦄ (h : dk_22_16 n g F v1 v2 v3 = some x), wq (wq_cf (d + 1)) (ev_un al_mX12_intern.2.2.2.2) (some .int) 16 [36893488147419103232, v1, v2, v3, u4, u5] [] wm_sh F 0 0 (wkI wm_T wm_sh x)
  | 0 => by
    intro u4 u5 F hT v1 hv1 v2 hv2 v3 hv3 hu4 hu5 x h
    cases h
  | g + 1 => dk_22_16bT (dk_22_16T g)
/-- X12_intern -/
def dk_22 (n : Nat) (F : wq_F) (a0 : Nat) : Option (Nat × wq_F) :=
  (dk_23 n F (F 0 20)).bind fun y1 =>
  od_g (y1.1 < 1024) <|
  dk_22_16 n n y1.2 a0 y1.1 (y1.2 7 y1.1)
theorem dkT_22 {d n : Nat} {F : wq_F} (hT : wm_T F) {a0 : Nat} (ha0 : a0 < 4294967296) {x : Nat × wq_F} (h : dk_22 n F a0 = some x) : mq (d + 1 + 1) 22 [36893488147419103232, a0] wm_sh F (wkI wm_T wm_sh x) := by
  have e : ev_ent [36893488147419103232, a0] = [36893488147419103232, a0] := by
    show 36893488147419103232 :: ev_ent [a0] = _
    rw [wm_entI ha0]
    rfl
  refine mq_of (maxL := 6) (rt := (some .int)) (code := (ev_un al_mX12_intern.2.2.2.2)) (L := [36893488147419103232, a0, 73786976294838206464, 73786976294838206464, 73786976294838206464, 73786976294838206464]) rfl (by rw [e]; exact Nat.le_of_ble_eq_true rfl) (by rw [e]; rfl) ?_
  unfold dk_22 at h
  refine wq_aload_n rfl rfl rfl ?_
  refine wq_aload_n rfl rfl rfl ?_
  refine wm_getI rfl (by decide) ?_
  obtain ⟨y1, e2, h⟩ := od_bindE h
  refine wd_virtI (q := 0) (y := y1) (as := [36893488147419103232, F 0 20]) rfl rfl rfl (by decide) (Nat.le_of_ble_eq_true rfl) (Nat.le_of_ble_eq_true rfl) rfl (Nat.le_of_ble_eq_true rfl) rfl (dkT_23 hT (hT.i 20 rfl) e2) (fun p3 T4 => ?_)
  refine wq_istore_n rfl p3 (Nat.le_of_ble_eq_true rfl) (Or.inr ⟨_, rfl, (wq_notL ha0)⟩) (L' := [36893488147419103232, a0, y1.1, 73786976294838206464, 73786976294838206464, 73786976294838206464]) rfl ?_
  refine wq_aload_n rfl rfl rfl ?_
  refine wm_getR (v := 36893488147419103239) rfl (by decide) (T4.r 13 6 rfl) ?_
  refine wq_iload_n rfl rfl p3 ?_
  obtain ⟨g5, h⟩ := od_gE h
  refine wq_iaload (q := 7) (n := 1024) rfl rfl (by decide) g5 (by decide) ?_
  refine wq_istore_n rfl (T4.ai (k := 7) rfl g5) (Nat.le_of_ble_eq_true rfl) (Or.inr ⟨_, rfl, (wq_notL p3)⟩) (L' := [36893488147419103232, a0, y1.1, y1.2 7 y1.1, 73786976294838206464, 73786976294838206464]) rfl ?_
  exact dk_22_16T n T4 ha0 p3 (T4.ai (k := 7) rfl g5) rfl rfl h
/-- X12_hidden -/
def dk_20 (n : Nat) (F : wq_F) (a0 : Nat) (a1 : Nat) (a2 : Nat) : Option (Nat × wq_F) :=
  od_up F 0 20 0 fun F1 =>
  (dk_21 n F1 a0).bind fun y4 =>
  (dk_21 n y4.2 a1).bind fun y8 =>
  (dk_22 n y8.2 a2).bind fun y12 =>
  some (y12.1, y12.2)
theorem dkT_20 {d n : Nat} {F : wq_F} (hT : wm_T F) {a0 : Nat} (ha0 : ev_isL a0 = true) {a1 : Nat} (ha1 : ev_isL a1 = true) {a2 : Nat} (ha2 : a2 < 4294967296) {x : Nat × wq_F} (h : dk_20 n F a0 a1 a2 = some x) : mq (d + 2 + 1) 20 [36893488147419103232, a0, a1, a2] wm_sh F (wkI wm_T wm_sh x) := by
  have e : ev_ent [36893488147419103232, a0, a1, a2] = [36893488147419103232, a0, 73786976294838206464, a1, 73786976294838206464, a2] := by
    show 36893488147419103232 :: ev_ent [a0, a1, a2] = _
    rw [wd_entL ha0, wd_entL ha1, wm_entI ha2]
    rfl
  refine mq_of (maxL := 6) (rt := (some .int)) (code := (ev_un al_mX12_hidden.2.2.2.2)) (L := [36893488147419103232, a0, 73786976294838206464, a1, 73786976294838206464, a2]) rfl (by rw [e]; exact Nat.le_of_ble_eq_true rfl) (by rw [e]; rfl) ?_
  unfold dk_20 at h
  refine wq_aload_n rfl rfl rfl ?_
  refine wq_iconst rfl rfl ?_
  obtain ⟨F1, e2, h⟩ := od_upE h
  refine wmE_put rfl (by decide) (wq_I (wm_zlt (by decide))) e2 ?_
  have T3 : wm_T F1 := wd_T e2 (hT.uf (f := 20) (c := 0) (v := 0) rfl (show 0 < 4294967296 from (wm_zlt (by decide))))
  refine wq_aload_n rfl rfl rfl ?_
  refine wq_lload_n rfl rfl ha0 ?_
  obtain ⟨y4, e5, h⟩ := od_bindE h
  refine wd_virtN (q := 0) (y := y4) (as := [36893488147419103232, a0]) rfl rfl rfl (by decide) (Nat.le_of_ble_eq_true rfl) (Nat.le_of_ble_eq_true rfl) rfl (Nat.le_of_ble_eq_true rfl) rfl (dkT_21 T3 ha0 e5) (fun T7 => ?_)
  refine wq_aload_n rfl rfl rfl ?_
  refine wq_lload_n rfl rfl ha1 ?_
  obtain ⟨y8, e9, h⟩ := od_bindE h
  refine wd_virtN (q := 0) (y := y8) (as := [36893488147419103232, a1]) rfl rfl rfl (by decide) (Nat.le_of_ble_eq_true rfl) (Nat.le_of_ble_eq_true rfl) rfl (Nat.le_of_ble_eq_true rfl) rfl (dkT_21 T7 ha1 e9) (fun T11 => ?_)
  refine wq_aload_n rfl rfl rfl ?_
  refine wq_iload rfl rfl ha2 ?_
  obtain ⟨y12, e13, h⟩ := od_bindE h
  refine wd_virtI (q := 0) (y := y12) (as := [36893488147419103232, a2]) rfl rfl rfl (by decide) (Nat.le_of_ble_eq_true rfl) (Nat.le_of_ble_eq_true rfl) rfl (Nat.le_of_ble_eq_true rfl) rfl (dkT_22 T11 ha2 e13) (fun p14 T15 => ?_)
  exact wq_iret rfl p14 rfl (wkOI h T15 p14)
/-- X12_internTypes -/
def dk_18 (n : Nat) (F : wq_F) : Option (Nat × wq_F) :=
  (dk_20 n F 18446744073716787564 18446744073709551616 0).bind fun y1 =>
  (dk_20 n y1.2 18474451145777832302 18446744073709551616 0).bind fun y5 =>
  (dk_20 n y5.2 18446865524334945650 18446744073709551616 0).bind fun y9 =>
  (dk_20 n y9.2 18446871017682464359 18446744073709551616 0).bind fun y13 =>
  (dk_20 n y13.2 18446744573559598181 18446744073709551616 0).bind fun y17 =>
  (dk_20 n y17.2 25829672611287232366 18446744073709551616 0).bind fun y21 =>
  (dk_20 n y21.2 18446872065654219108 18446744073709551616 0).bind fun y25 =>
  (dk_20 n y25.2 18446744073716786551 18446744073709551616 1).bind fun y29 =>
  (dk_20 n y29.2 18479241718007883108 18446744073709551616 0).bind fun y33 =>
  (dk_20 n y33.2 18478961338213822055 18446744073709551616 1).bind fun y37 =>
  (dk_20 n y37.2 18446865498649747820 18446744073709551616 0).bind fun y41 =>
  (dk_20 n y41.2 18446744075393917284 18446744073709551616 0).bind fun y45 =>
  (dk_20 n y45.2 25541447825774109042 18446744073709551732 0).bind fun y49 =>
  (dk_20 n y49.2 25681039532818981234 18446744073709551732 0).bind fun y53 =>
  (dk_20 n y53.2 18446744073709551726 18446744073709551616 1).bind fun y57 =>
  some (0, y57.2)
theorem dkT_18 {d n : Nat} {F : wq_F} (hT : wm_T F) {x : Nat × wq_F} (h : dk_18 n F = some x) : mq (d + 3 + 1) 18 [36893488147419103232] wm_sh F (wkN wm_T wm_sh x) := by
  have e : ev_ent [36893488147419103232] = [36893488147419103232] := by
    rfl
  refine mq_of (maxL := 2) (rt := none) (code := (ev_un al_mX12_internTypes.2.2.2.2)) (L := [36893488147419103232, 73786976294838206464]) rfl (by rw [e]; exact Nat.le_of_ble_eq_true rfl) (by rw [e]; rfl) ?_
  unfold dk_18 at h
  refine wq_aload_n rfl rfl rfl ?_
  refine wq_ldc2 rfl (by decide) ?_
  refine wq_lconst rfl ?_
  refine wq_iconst rfl rfl ?_
  obtain ⟨y1, e2, h⟩ := od_bindE h
  refine wd_virtI (q := 0) (y := y1) (as := [36893488147419103232, 18446744073716787564, 18446744073709551616, 0]) rfl rfl rfl (by decide) (Nat.le_of_ble_eq_true rfl) (Nat.le_of_ble_eq_true rfl) rfl (Nat.le_of_ble_eq_true rfl) rfl (dkT_20 hT rfl rfl (wm_zlt (by decide)) e2) (fun p3 T4 => ?_)
  refine wq_istore_n rfl p3 (Nat.le_of_ble_eq_true rfl) (Or.inr ⟨_, rfl, rfl⟩) (L' := [36893488147419103232, y1.1]) rfl ?_
  refine wq_aload_n rfl rfl rfl ?_
  refine wq_ldc2 rfl (by decide) ?_
  refine wq_lconst rfl ?_
  refine wq_iconst rfl rfl ?_
  obtain ⟨y5, e6, h⟩ := od_bindE h
  refine wd_virtI (q := 0) (y := y5) (as := [36893488147419103232, 18474451145777832302, 18446744073709551616, 0]) rfl rfl rfl (by decide) (Nat.le_of_ble_eq_true rfl) (Nat.le_of_ble_eq_true rfl) rfl (Nat.le_of_ble_eq_true rfl) rfl (dkT_20 T4 rfl rfl (wm_zlt (by decide)) e6) (fun p7 T8 => ?_)
  refine wq_istore_n rfl p7 (Nat.le_of_ble_eq_true rfl) (Or.inr ⟨_, rfl, rfl⟩) (L' := [36893488147419103232, y5.1]) rfl ?_
  refine wq_aload_n rfl rfl rfl ?_
  refine wq_ldc2 rfl (by decide) ?_
  refine wq_lconst rfl ?_
  refine wq_iconst rfl rfl ?_
  obtain ⟨y9, e10, h⟩ := od_bindE h
  refine wd_virtI (q := 0) (y := y9) (as := [36893488147419103232, 18446865524334945650, 18446744073709551616, 0]) rfl rfl rfl (by decide) (Nat.le_of_ble_eq_true rfl) (Nat.le_of_ble_eq_true rfl) rfl (Nat.le_of_ble_eq_true rfl) rfl (dkT_20 T8 rfl rfl (wm_zlt (by decide)) e10) (fun p11 T12 => ?_)
  refine wq_istore_n rfl p11 (Nat.le_of_ble_eq_true rfl) (Or.inr ⟨_, rfl, rfl⟩) (L' := [36893488147419103232, y9.1]) rfl ?_
  refine wq_aload_n rfl rfl rfl ?_
  refine wq_ldc2 rfl (by decide) ?_
  refine wq_lconst rfl ?_
  refine wq_iconst rfl rfl ?_
  obtain ⟨y13, e14, h⟩ := od_bindE h
  refine wd_virtI (q := 0) (y := y13) (as := [36893488147419103232, 18446871017682464359, 18446744073709551616, 0]) rfl rfl rfl (by decide) (Nat.le_of_ble_eq_true rfl) (Nat.le_of_ble_eq_true rfl) rfl (Nat.le_of_ble_eq_true rfl) rfl (dkT_20 T12 rfl rfl (wm_zlt (by decide)) e14) (fun p15 T16 => ?_)
  refine wq_istore_n rfl p15 (Nat.le_of_ble_eq_true rfl) (Or.inr ⟨_, rfl, rfl⟩) (L' := [36893488147419103232, y13.1]) rfl ?_
  refine wq_aload_n rfl rfl rfl ?_
  refine wq_ldc2 rfl (by decide) ?_
  refine wq_lconst rfl ?_
  refine wq_iconst rfl rfl ?_
  obtain ⟨y17, e18, h⟩ := od_bindE h
  refine wd_virtI (q := 0) (y := y17) (as := [36893488147419103232, 18446744573559598181, 18446744073709551616, 0]) rfl rfl rfl (by decide) (Nat.le_of_ble_eq_true rfl) (Nat.le_of_ble_eq_true rfl) rfl (Nat.le_of_ble_eq_true rfl) rfl (dkT_20 T16 rfl rfl (wm_zlt (by decide)) e18) (fun p19 T20 => ?_)
  refine wq_istore_n rfl p19 (Nat.le_of_ble_eq_true rfl) (Or.inr ⟨_, rfl, rfl⟩) (L' := [36893488147419103232, y17.1]) rfl ?_
  refine wq_aload_n rfl rfl rfl ?_
  refine wq_ldc2 rfl (by decide) ?_
  refine wq_lconst rfl ?_
  refine wq_iconst rfl rfl ?_
  obtain ⟨y21, e22, h⟩ := od_bindE h
  refine wd_virtI (q := 0) (y := y21) (as := [36893488147419103232, 25829672611287232366, 18446744073709551616, 0]) rfl rfl rfl (by decide) (Nat.le_of_ble_eq_true rfl) (Nat.le_of_ble_eq_true rfl) rfl (Nat.le_of_ble_eq_true rfl) rfl (dkT_20 T20 rfl rfl (wm_zlt (by decide)) e22) (fun p23 T24 => ?_)
  refine wq_istore_n rfl p23 (Nat.le_of_ble_eq_true rfl) (Or.inr ⟨_, rfl, rfl⟩) (L' := [36893488147419103232, y21.1]) rfl ?_
  refine wq_aload_n rfl rfl rfl ?_
  refine wq_ldc2 rfl (by decide) ?_
  refine wq_lconst rfl ?_
  refine wq_iconst rfl rfl ?_
  obtain ⟨y25, e26, h⟩ := od_bindE h
  refine wd_virtI (q := 0) (y := y25) (as := [36893488147419103232, 18446872065654219108, 18446744073709551616, 0]) rfl rfl rfl (by decide) (Nat.le_of_ble_eq_true rfl) (Nat.le_of_ble_eq_true rfl) rfl (Nat.le_of_ble_eq_true rfl) rfl (dkT_20 T24 rfl rfl (wm_zlt (by decide)) e26) (fun p27 T28 => ?_)
  refine wq_istore_n rfl p27 (Nat.le_of_ble_eq_true rfl) (Or.inr ⟨_, rfl, rfl⟩) (L' := [36893488147419103232, y25.1]) rfl ?_
  refine wq_aload_n rfl rfl rfl ?_
  refine wq_ldc2 rfl (by decide) ?_
  refine wq_lconst rfl ?_
  refine wq_iconst rfl rfl ?_
  obtain ⟨y29, e30, h⟩ := od_bindE h
  refine wd_virtI (q := 0) (y := y29) (as := [36893488147419103232, 18446744073716786551, 18446744073709551616, 1]) rfl rfl rfl (by decide) (Nat.le_of_ble_eq_true rfl) (Nat.le_of_ble_eq_true rfl) rfl (Nat.le_of_ble_eq_true rfl) rfl (dkT_20 T28 rfl rfl (wm_zlt (by decide)) e30) (fun p31 T32 => ?_)
  refine wq_istore_n rfl p31 (Nat.le_of_ble_eq_true rfl) (Or.inr ⟨_, rfl, rfl⟩) (L' := [36893488147419103232, y29.1]) rfl ?_
  refine wq_aload_n rfl rfl rfl ?_
  refine wq_ldc2 rfl (by decide) ?_
  refine wq_lconst rfl ?_
  refine wq_iconst rfl rfl ?_
  obtain ⟨y33, e34, h⟩ := od_bindE h
  refine wd_virtI (q := 0) (y := y33) (as := [36893488147419103232, 18479241718007883108, 18446744073709551616, 0]) rfl rfl rfl (by decide) (Nat.le_of_ble_eq_true rfl) (Nat.le_of_ble_eq_true rfl) rfl (Nat.le_of_ble_eq_true rfl) rfl (dkT_20 T32 rfl rfl (wm_zlt (by decide)) e34) (fun p35 T36 => ?_)
  refine wq_istore_n rfl p35 (Nat.le_of_ble_eq_true rfl) (Or.inr ⟨_, rfl, rfl⟩) (L' := [36893488147419103232, y33.1]) rfl ?_
  refine wq_aload_n rfl rfl rfl ?_
  refine wq_ldc2 rfl (by decide) ?_
  refine wq_lconst rfl ?_
  refine wq_iconst rfl rfl ?_
  obtain ⟨y37, e38, h⟩ := od_bindE h
  refine wd_virtI (q := 0) (y := y37) (as := [36893488147419103232, 18478961338213822055, 18446744073709551616, 1]) rfl rfl rfl (by decide) (Nat.le_of_ble_eq_true rfl) (Nat.le_of_ble_eq_true rfl) rfl (Nat.le_of_ble_eq_true rfl) rfl (dkT_20 T36 rfl rfl (wm_zlt (by decide)) e38) (fun p39 T40 => ?_)
  refine wq_istore_n rfl p39 (Nat.le_of_ble_eq_true rfl) (Or.inr ⟨_, rfl, rfl⟩) (L' := [36893488147419103232, y37.1]) rfl ?_
  refine wq_aload_n rfl rfl rfl ?_
  refine wq_ldc2 rfl (by decide) ?_
  refine wq_lconst rfl ?_
  refine wq_iconst rfl rfl ?_
  obtain ⟨y41, e42, h⟩ := od_bindE h
  refine wd_virtI (q := 0) (y := y41) (as := [36893488147419103232, 18446865498649747820, 18446744073709551616, 0]) rfl rfl rfl (by decide) (Nat.le_of_ble_eq_true rfl) (Nat.le_of_ble_eq_true rfl) rfl (Nat.le_of_ble_eq_true rfl) rfl (dkT_20 T40 rfl rfl (wm_zlt (by decide)) e42) (fun p43 T44 => ?_)
  refine wq_istore_n rfl p43 (Nat.le_of_ble_eq_true rfl) (Or.inr ⟨_, rfl, rfl⟩) (L' := [36893488147419103232, y41.1]) rfl ?_
  refine wq_aload_n rfl rfl rfl ?_
  refine wq_ldc2 rfl (by decide) ?_
  refine wq_lconst rfl ?_
  refine wq_iconst rfl rfl ?_
  obtain ⟨y45, e46, h⟩ := od_bindE h
  refine wd_virtI (q := 0) (y := y45) (as := [36893488147419103232, 18446744075393917284, 18446744073709551616, 0]) rfl rfl rfl (by decide) (Nat.le_of_ble_eq_true rfl) (Nat.le_of_ble_eq_true rfl) rfl (Nat.le_of_ble_eq_true rfl) rfl (dkT_20 T44 rfl rfl (wm_zlt (by decide)) e46) (fun p47 T48 => ?_)
  refine wq_istore_n rfl p47 (Nat.le_of_ble_eq_true rfl) (Or.inr ⟨_, rfl, rfl⟩) (L' := [36893488147419103232, y45.1]) rfl ?_
  refine wq_aload_n rfl rfl rfl ?_
  refine wq_ldc2 rfl (by decide) ?_
  refine wq_ldc2 rfl (by decide) ?_
  refine wq_iconst rfl rfl ?_
  obtain ⟨y49, e50, h⟩ := od_bindE h
  refine wd_virtI (q := 0) (y := y49) (as := [36893488147419103232, 25541447825774109042, 18446744073709551732, 0]) rfl rfl rfl (by decide) (Nat.le_of_ble_eq_true rfl) (Nat.le_of_ble_eq_true rfl) rfl (Nat.le_of_ble_eq_true rfl) rfl (dkT_20 T48 rfl rfl (wm_zlt (by decide)) e50) (fun p51 T52 => ?_)
  refine wq_istore_n rfl p51 (Nat.le_of_ble_eq_true rfl) (Or.inr ⟨_, rfl, rfl⟩) (L' := [36893488147419103232, y49.1]) rfl ?_
  refine wq_aload_n rfl rfl rfl ?_
  refine wq_ldc2 rfl (by decide) ?_
  refine wq_ldc2 rfl (by decide) ?_
  refine wq_iconst rfl rfl ?_
  obtain ⟨y53, e54, h⟩ := od_bindE h
  refine wd_virtI (q := 0) (y := y53) (as := [36893488147419103232, 25681039532818981234, 18446744073709551732, 0]) rfl rfl rfl (by decide) (Nat.le_of_ble_eq_true rfl) (Nat.le_of_ble_eq_true rfl) rfl (Nat.le_of_ble_eq_true rfl) rfl (dkT_20 T52 rfl rfl (wm_zlt (by decide)) e54) (fun p55 T56 => ?_)
  refine wq_istore_n rfl p55 (Nat.le_of_ble_eq_true rfl) (Or.inr ⟨_, rfl, rfl⟩) (L' := [36893488147419103232, y53.1]) rfl ?_
  refine wq_aload_n rfl rfl rfl ?_
  refine wq_ldc2 rfl (by decide) ?_
  refine wq_lconst rfl ?_
  refine wq_iconst rfl rfl ?_
  obtain ⟨y57, e58, h⟩ := od_bindE h
  refine wd_virtI (q := 0) (y := y57) (as := [36893488147419103232, 18446744073709551726, 18446744073709551616, 1]) rfl rfl rfl (by decide) (Nat.le_of_ble_eq_true rfl) (Nat.le_of_ble_eq_true rfl) rfl (Nat.le_of_ble_eq_true rfl) rfl (dkT_20 T56 rfl rfl (wm_zlt (by decide)) e58) (fun p59 T60 => ?_)
  refine wq_istore_n rfl p59 (Nat.le_of_ble_eq_true rfl) (Or.inr ⟨_, rfl, rfl⟩) (L' := [36893488147419103232, y57.1]) rfl ?_
  exact wq_ret rfl (wkON h T60)
/-- X12_internNames -/
def dk_19 (n : Nat) (F : wq_F) : Option (Nat × wq_F) :=
  (dk_20 n F 18446744556665400948 18446744073709551616 1).bind fun y1 =>
  (dk_20 n y1.2 18446744075663667301 18446744073709551616 1).bind fun y5 =>
  (dk_20 n y5.2 26836795648496987751 18446744073709551616 1).bind fun y9 =>
  (dk_20 n y9.2 26836790155149469042 18446744073709551616 1).bind fun y13 =>
  (dk_20 n y13.2 18446744075561695348 18446744073709551616 1).bind fun y17 =>
  (dk_20 n y17.2 18446744556380189299 18446744073709551616 1).bind fun y21 =>
  (dk_20 n y21.2 18446860005101105779 18446744073709551616 1).bind fun y25 =>
  (dk_20 n y25.2 18446869836650210676 18446744073709551616 1).bind fun y29 =>
  (dk_20 n y29.2 18446869836650997108 18446744073709551616 1).bind fun y33 =>
  (dk_20 n y33.2 26688744144353190252 18446744073709551616 1).bind fun y37 =>
  (dk_20 n y37.2 18446869836650538350 18446744073709551616 1).bind fun y41 =>
  (dk_20 n y41.2 25897233245466288500 18446744075343391845 1).bind fun y45 =>
  (dk_20 n y45.2 26761924373921423732 18446744075343391845 1).bind fun y49 =>
  (dk_20 n y49.2 18446744509421350770 18446744073709551616 1).bind fun y53 =>
  (dk_20 n y53.2 18446744556413217900 18446744073709551616 1).bind fun y57 =>
  (dk_20 n y57.2 18446870953157026676 18446744073709551616 1).bind fun y61 =>
  (dk_20 n y61.2 18474732607869641588 18446744073709551616 1).bind fun y65 =>
  (dk_20 n y65.2 18446744075528401780 18446744073709551616 1).bind fun y69 =>
  (dk_20 n y69.2 18446744075662358644 18446744073709551616 1).bind fun y73 =>
  (dk_20 n y73.2 18446744075594986100 18446744073709551616 1).bind fun y77 =>
  (dk_20 n y77.2 18446859996812898932 18446744073709551616 1).bind fun y81 =>
  (dk_20 n y81.2 18446869853662836325 18446744073709551616 1).bind fun y85 =>
  (dk_20 n y85.2 18446853403954078068 18446744073709551616 1).bind fun y89 =>
  (dk_20 n y89.2 18446744075594982251 18446744073709551616 1).bind fun y93 =>
  (dk_20 n y93.2 18446873190901834603 18446744073709551616 1).bind fun y97 =>
  (dk_20 n y97.2 18446744073717118306 18446744073709551616 1).bind fun y101 =>
  (dk_20 n y101.2 18446744075361678437 18446744073709551616 1).bind fun y105 =>
  (dk_20 n y105.2 18446744075377336690 18446744073709551616 1).bind fun y109 =>
  (dk_20 n y109.2 18446744073717048688 18446744073709551616 1).bind fun y113 =>
  (dk_20 n y113.2 18446744073709578095 18446744073709551616 1).bind fun y117 =>
  (dk_20 n y117.2 18446744075646562160 18446744073709551616 1).bind fun y121 =>
  (dk_20 n y121.2 18446744569583334501 18446744073709551616 1).bind fun y125 =>
  some (0, y125.2)
theorem dkT_19 {d n : Nat} {F : wq_F} (hT : wm_T F) {x : Nat × wq_F} (h : dk_19 n F = some x) : mq (d + 3 + 1) 19 [36893488147419103232] wm_sh F (wkN wm_T wm_sh x) := by
  have e : ev_ent [36893488147419103232] = [36893488147419103232] := by
    rfl
  refine mq_of (maxL := 2) (rt := none) (code := (ev_un al_mX12_internNames.2.2.2.2)) (L := [36893488147419103232, 73786976294838206464]) rfl (by rw [e]; exact Nat.le_of_ble_eq_true rfl) (by rw [e]; rfl) ?_
  unfold dk_19 at h
  refine wq_aload_n rfl rfl rfl ?_
  refine wq_ldc2 rfl (by decide) ?_
  refine wq_lconst rfl ?_
  refine wq_iconst rfl rfl ?_
  obtain ⟨y1, e2, h⟩ := od_bindE h
  refine wd_virtI (q := 0) (y := y1) (as := [36893488147419103232, 18446744556665400948, 18446744073709551616, 1]) rfl rfl rfl (by decide) (Nat.le_of_ble_eq_true rfl) (Nat.le_of_ble_eq_true rfl) rfl (Nat.le_of_ble_eq_true rfl) rfl (dkT_20 hT rfl rfl (wm_zlt (by decide)) e2) (fun p3 T4 => ?_)
  refine wq_istore_n rfl p3 (Nat.le_of_ble_eq_true rfl) (Or.inr ⟨_, rfl, rfl⟩) (L' := [36893488147419103232, y1.1]) rfl ?_
  refine wq_aload_n rfl rfl rfl ?_
  refine wq_ldc2 rfl (by decide) ?_
  refine wq_lconst rfl ?_
  refine wq_iconst rfl rfl ?_
  obtain ⟨y5, e6, h⟩ := od_bindE h
  refine wd_virtI (q := 0) (y := y5) (as := [36893488147419103232, 18446744075663667301, 18446744073709551616, 1]) rfl rfl rfl (by decide) (Nat.le_of_ble_eq_true rfl) (Nat.le_of_ble_eq_true rfl) rfl (Nat.le_of_ble_eq_true rfl) rfl (dkT_20 T4 rfl rfl (wm_zlt (by decide)) e6) (fun p7 T8 => ?_)
  refine wq_istore_n rfl p7 (Nat.le_of_ble_eq_true rfl) (Or.inr ⟨_, rfl, rfl⟩) (L' := [36893488147419103232, y5.1]) rfl ?_
  refine wq_aload_n rfl rfl rfl ?_
  refine wq_ldc2 rfl (by decide) ?_
  refine wq_lconst rfl ?_
  refine wq_iconst rfl rfl ?_
  obtain ⟨y9, e10, h⟩ := od_bindE h
  refine wd_virtI (q := 0) (y := y9) (as := [36893488147419103232, 26836795648496987751, 18446744073709551616, 1]) rfl rfl rfl (by decide) (Nat.le_of_ble_eq_true rfl) (Nat.le_of_ble_eq_true rfl) rfl (Nat.le_of_ble_eq_true rfl) rfl (dkT_20 T8 rfl rfl (wm_zlt (by decide)) e10) (fun p11 T12 => ?_)
  refine wq_istore_n rfl p11 (Nat.le_of_ble_eq_true rfl) (Or.inr ⟨_, rfl, rfl⟩) (L' := [36893488147419103232, y9.1]) rfl ?_
  refine wq_aload_n rfl rfl rfl ?_
  refine wq_ldc2 rfl (by decide) ?_
  refine wq_lconst rfl ?_
  refine wq_iconst rfl rfl ?_
  obtain ⟨y13, e14, h⟩ := od_bindE h
  refine wd_virtI (q := 0) (y := y13) (as := [36893488147419103232, 26836790155149469042, 18446744073709551616, 1]) rfl rfl rfl (by decide) (Nat.le_of_ble_eq_true rfl) (Nat.le_of_ble_eq_true rfl) rfl (Nat.le_of_ble_eq_true rfl) rfl (dkT_20 T12 rfl rfl (wm_zlt (by decide)) e14) (fun p15 T16 => ?_)
  refine wq_istore_n rfl p15 (Nat.le_of_ble_eq_true rfl) (Or.inr ⟨_, rfl, rfl⟩) (L' := [36893488147419103232, y13.1]) rfl ?_
  refine wq_aload_n rfl rfl rfl ?_
  refine wq_ldc2 rfl (by decide) ?_
  refine wq_lconst rfl ?_
  refine wq_iconst rfl rfl ?_
  obtain ⟨y17, e18, h⟩ := od_bindE h
  refine wd_virtI (q := 0) (y := y17) (as := [36893488147419103232, 18446744075561695348, 18446744073709551616, 1]) rfl rfl rfl (by decide) (Nat.le_of_ble_eq_true rfl) (Nat.le_of_ble_eq_true rfl) rfl (Nat.le_of_ble_eq_true rfl) rfl (dkT_20 T16 rfl rfl (wm_zlt (by decide)) e18) (fun p19 T20 => ?_)
  refine wq_istore_n rfl p19 (Nat.le_of_ble_eq_true rfl) (Or.inr ⟨_, rfl, rfl⟩) (L' := [36893488147419103232, y17.1]) rfl ?_
  refine wq_aload_n rfl rfl rfl ?_
  refine wq_ldc2 rfl (by decide) ?_
  refine wq_lconst rfl ?_
  refine wq_iconst rfl rfl ?_
  obtain ⟨y21, e22, h⟩ := od_bindE h
  refine wd_virtI (q := 0) (y := y21) (as := [36893488147419103232, 18446744556380189299, 18446744073709551616, 1]) rfl rfl rfl (by decide) (Nat.le_of_ble_eq_true rfl) (Nat.le_of_ble_eq_true rfl) rfl (Nat.le_of_ble_eq_true rfl) rfl (dkT_20 T20 rfl rfl (wm_zlt (by decide)) e22) (fun p23 T24 => ?_)
  refine wq_istore_n rfl p23 (Nat.le_of_ble_eq_true rfl) (Or.inr ⟨_, rfl, rfl⟩) (L' := [36893488147419103232, y21.1]) rfl ?_
  refine wq_aload_n rfl rfl rfl ?_
  refine wq_ldc2 rfl (by decide) ?_
  refine wq_lconst rfl ?_
  refine wq_iconst rfl rfl ?_
  obtain ⟨y25, e26, h⟩ := od_bindE h
  refine wd_virtI (q := 0) (y := y25) (as := [36893488147419103232, 18446860005101105779, 18446744073709551616, 1]) rfl rfl rfl (by decide) (Nat.le_of_ble_eq_true rfl) (Nat.le_of_ble_eq_true rfl) rfl (Nat.le_of_ble_eq_true rfl) rfl (dkT_20 T24 rfl rfl (wm_zlt (by decide)) e26) (fun p27 T28 => ?_)
  refine wq_istore_n rfl p27 (Nat.le_of_ble_eq_true rfl) (Or.inr ⟨_, rfl, rfl⟩) (L' := [36893488147419103232, y25.1]) rfl ?_
  refine wq_aload_n rfl rfl rfl ?_
  refine wq_ldc2 rfl (by decide) ?_
  refine wq_lconst rfl ?_
  refine wq_iconst rfl rfl ?_
  obtain ⟨y29, e30, h⟩ := od_bindE h
  refine wd_virtI (q := 0) (y := y29) (as := [36893488147419103232, 18446869836650210676, 18446744073709551616, 1]) rfl rfl rfl (by decide) (Nat.le_of_ble_eq_true rfl) (Nat.le_of_ble_eq_true rfl) rfl (Nat.le_of_ble_eq_true rfl) rfl (dkT_20 T28 rfl rfl (wm_zlt (by decide)) e30) (fun p31 T32 => ?_)
  refine wq_istore_n rfl p31 (Nat.le_of_ble_eq_true rfl) (Or.inr ⟨_, rfl, rfl⟩) (L' := [36893488147419103232, y29.1]) rfl ?_
  refine wq_aload_n rfl rfl rfl ?_
  refine wq_ldc2 rfl (by decide) ?_
  refine wq_lconst rfl ?_
  refine wq_iconst rfl rfl ?_
  obtain ⟨y33, e34, h⟩ := od_bindE h
  refine wd_virtI (q := 0) (y := y33) (as := [36893488147419103232, 18446869836650997108, 18446744073709551616, 1]) rfl rfl rfl (by decide) (Nat.le_of_ble_eq_true rfl) (Nat.le_of_ble_eq_true rfl) rfl (Nat.le_of_ble_eq_true rfl) rfl (dkT_20 T32 rfl rfl (wm_zlt (by decide)) e34) (fun p35 T36 => ?_)
  refine wq_istore_n rfl p35 (Nat.le_of_ble_eq_true rfl) (Or.inr ⟨_, rfl, rfl⟩) (L' := [36893488147419103232, y33.1]) rfl ?_
  refine wq_aload_n rfl rfl rfl ?_
  refine wq_ldc2 rfl (by decide) ?_
  refine wq_lconst rfl ?_
  refine wq_iconst rfl rfl ?_
  obtain ⟨y37, e38, h⟩ := od_bindE h
  refine wd_virtI (q := 0) (y := y37) (as := [36893488147419103232, 26688744144353190252, 18446744073709551616, 1]) rfl rfl rfl (by decide) (Nat.le_of_ble_eq_true rfl) (Nat.le_of_ble_eq_true rfl) rfl (Nat.le_of_ble_eq_true rfl) rfl (dkT_20 T36 rfl rfl (wm_zlt (by decide)) e38) (fun p39 T40 => ?_)
  refine wq_istore_n rfl p39 (Nat.le_of_ble_eq_true rfl) (Or.inr ⟨_, rfl, rfl⟩) (L' := [36893488147419103232, y37.1]) rfl ?_
  refine wq_aload_n rfl rfl rfl ?_
  refine wq_ldc2 rfl (by decide) ?_
  refine wq_lconst rfl ?_
  refine wq_iconst rfl rfl ?_
  obtain ⟨y41, e42, h⟩ := od_bindE h
  refine wd_virtI (q := 0) (y := y41) (as := [36893488147419103232, 18446869836650538350, 18446744073709551616, 1]) rfl rfl rfl (by decide) (Nat.le_of_ble_eq_true rfl) (Nat.le_of_ble_eq_true rfl) rfl (Nat.le_of_ble_eq_true rfl) rfl (dkT_20 T40 rfl rfl (wm_zlt (by decide)) e42) (fun p43 T44 => ?_)
  refine wq_istore_n rfl p43 (Nat.le_of_ble_eq_true rfl) (Or.inr ⟨_, rfl, rfl⟩) (L' := [36893488147419103232, y41.1]) rfl ?_
  refine wq_aload_n rfl rfl rfl ?_
  refine wq_ldc2 rfl (by decide) ?_
  refine wq_ldc2 rfl (by decide) ?_
  refine wq_iconst rfl rfl ?_
  obtain ⟨y45, e46, h⟩ := od_bindE h
  refine wd_virtI (q := 0) (y := y45) (as := [36893488147419103232, 25897233245466288500, 18446744075343391845, 1]) rfl rfl rfl (by decide) (Nat.le_of_ble_eq_true rfl) (Nat.le_of_ble_eq_true rfl) rfl (Nat.le_of_ble_eq_true rfl) rfl (dkT_20 T44 rfl rfl (wm_zlt (by decide)) e46) (fun p47 T48 => ?_)
  refine wq_istore_n rfl p47 (Nat.le_of_ble_eq_true rfl) (Or.inr ⟨_, rfl, rfl⟩) (L' := [36893488147419103232, y45.1]) rfl ?_
  refine wq_aload_n rfl rfl rfl ?_
  refine wq_ldc2 rfl (by decide) ?_
  refine wq_ldc2 rfl (by decide) ?_
  refine wq_iconst rfl rfl ?_
  obtain ⟨y49, e50, h⟩ := od_bindE h
  refine wd_virtI (q := 0) (y := y49) (as := [36893488147419103232, 26761924373921423732, 18446744075343391845, 1]) rfl rfl rfl (by decide) (Nat.le_of_ble_eq_true rfl) (Nat.le_of_ble_eq_true rfl) rfl (Nat.le_of_ble_eq_true rfl) rfl (dkT_20 T48 rfl rfl (wm_zlt (by decide)) e50) (fun p51 T52 => ?_)
  refine wq_istore_n rfl p51 (Nat.le_of_ble_eq_true rfl) (Or.inr ⟨_, rfl, rfl⟩) (L' := [36893488147419103232, y49.1]) rfl ?_
  refine wq_aload_n rfl rfl rfl ?_
  refine wq_ldc2 rfl (by decide) ?_
  refine wq_lconst rfl ?_
  refine wq_iconst rfl rfl ?_
  obtain ⟨y53, e54, h⟩ := od_bindE h
  refine wd_virtI (q := 0) (y := y53) (as := [36893488147419103232, 18446744509421350770, 18446744073709551616, 1]) rfl rfl rfl (by decide) (Nat.le_of_ble_eq_true rfl) (Nat.le_of_ble_eq_true rfl) rfl (Nat.le_of_ble_eq_true rfl) rfl (dkT_20 T52 rfl rfl (wm_zlt (by decide)) e54) (fun p55 T56 => ?_)
  refine wq_istore_n rfl p55 (Nat.le_of_ble_eq_true rfl) (Or.inr ⟨_, rfl, rfl⟩) (L' := [36893488147419103232, y53.1]) rfl ?_
  refine wq_aload_n rfl rfl rfl ?_
  refine wq_ldc2 rfl (by decide) ?_
  refine wq_lconst rfl ?_
  refine wq_iconst rfl rfl ?_
  obtain ⟨y57, e58, h⟩ := od_bindE h
  refine wd_virtI (q := 0) (y := y57) (as := [36893488147419103232, 18446744556413217900, 18446744073709551616, 1]) rfl rfl rfl (by decide) (Nat.le_of_ble_eq_true rfl) (Nat.le_of_ble_eq_true rfl) rfl (Nat.le_of_ble_eq_true rfl) rfl (dkT_20 T56 rfl rfl (wm_zlt (by decide)) e58) (fun p59 T60 => ?_)
  refine wq_istore_n rfl p59 (Nat.le_of_ble_eq_true rfl) (Or.inr ⟨_, rfl, rfl⟩) (L' := [36893488147419103232, y57.1]) rfl ?_
  refine wq_aload_n rfl rfl rfl ?_
  refine wq_ldc2 rfl (by decide) ?_
  refine wq_lconst rfl ?_
  refine wq_iconst rfl rfl ?_
  obtain ⟨y61, e62, h⟩ := od_bindE h
  refine wd_virtI (q := 0) (y := y61) (as := [36893488147419103232, 18446870953157026676, 18446744073709551616, 1]) rfl rfl rfl (by decide) (Nat.le_of_ble_eq_true rfl) (Nat.le_of_ble_eq_true rfl) rfl (Nat.le_of_ble_eq_true rfl) rfl (dkT_20 T60 rfl rfl (wm_zlt (by decide)) e62) (fun p63 T64 => ?_)
  refine wq_istore_n rfl p63 (Nat.le_of_ble_eq_true rfl) (Or.inr ⟨_, rfl, rfl⟩) (L' := [36893488147419103232, y61.1]) rfl ?_
  refine wq_aload_n rfl rfl rfl ?_
  refine wq_ldc2 rfl (by decide) ?_
  refine wq_lconst rfl ?_
  refine wq_iconst rfl rfl ?_
  obtain ⟨y65, e66, h⟩ := od_bindE h
  refine wd_virtI (q := 0) (y := y65) (as := [36893488147419103232, 18474732607869641588, 18446744073709551616, 1]) rfl rfl rfl (by decide) (Nat.le_of_ble_eq_true rfl) (Nat.le_of_ble_eq_true rfl) rfl (Nat.le_of_ble_eq_true rfl) rfl (dkT_20 T64 rfl rfl (wm_zlt (by decide)) e66) (fun p67 T68 => ?_)
  refine wq_istore_n rfl p67 (Nat.le_of_ble_eq_true rfl) (Or.inr ⟨_, rfl, rfl⟩) (L' := [36893488147419103232, y65.1]) rfl ?_
  refine wq_aload_n rfl rfl rfl ?_
  refine wq_ldc2 rfl (by decide) ?_
  refine wq_lconst rfl ?_
  refine wq_iconst rfl rfl ?_
  obtain ⟨y69, e70, h⟩ := od_bindE h
  refine wd_virtI (q := 0) (y := y69) (as := [36893488147419103232, 18446744075528401780, 18446744073709551616, 1]) rfl rfl rfl (by decide) (Nat.le_of_ble_eq_true rfl) (Nat.le_of_ble_eq_true rfl) rfl (Nat.le_of_ble_eq_true rfl) rfl (dkT_20 T68 rfl rfl (wm_zlt (by decide)) e70) (fun p71 T72 => ?_)
  refine wq_istore_n rfl p71 (Nat.le_of_ble_eq_true rfl) (Or.inr ⟨_, rfl, rfl⟩) (L' := [36893488147419103232, y69.1]) rfl ?_
  refine wq_aload_n rfl rfl rfl ?_
  refine wq_ldc2 rfl (by decide) ?_
  refine wq_lconst rfl ?_
  refine wq_iconst rfl rfl ?_
  obtain ⟨y73, e74, h⟩ := od_bindE h
  refine wd_virtI (q := 0) (y := y73) (as := [36893488147419103232, 18446744075662358644, 18446744073709551616, 1]) rfl rfl rfl (by decide) (Nat.le_of_ble_eq_true rfl) (Nat.le_of_ble_eq_true rfl) rfl (Nat.le_of_ble_eq_true rfl) rfl (dkT_20 T72 rfl rfl (wm_zlt (by decide)) e74) (fun p75 T76 => ?_)
  refine wq_istore_n rfl p75 (Nat.le_of_ble_eq_true rfl) (Or.inr ⟨_, rfl, rfl⟩) (L' := [36893488147419103232, y73.1]) rfl ?_
  refine wq_aload_n rfl rfl rfl ?_
  refine wq_ldc2 rfl (by decide) ?_
  refine wq_lconst rfl ?_
  refine wq_iconst rfl rfl ?_
  obtain ⟨y77, e78, h⟩ := od_bindE h
  refine wd_virtI (q := 0) (y := y77) (as := [36893488147419103232, 18446744075594986100, 18446744073709551616, 1]) rfl rfl rfl (by decide) (Nat.le_of_ble_eq_true rfl) (Nat.le_of_ble_eq_true rfl) rfl (Nat.le_of_ble_eq_true rfl) rfl (dkT_20 T76 rfl rfl (wm_zlt (by decide)) e78) (fun p79 T80 => ?_)
  refine wq_istore_n rfl p79 (Nat.le_of_ble_eq_true rfl) (Or.inr ⟨_, rfl, rfl⟩) (L' := [36893488147419103232, y77.1]) rfl ?_
  refine wq_aload_n rfl rfl rfl ?_
  refine wq_ldc2 rfl (by decide) ?_
  refine wq_lconst rfl ?_
  refine wq_iconst rfl rfl ?_
  obtain ⟨y81, e82, h⟩ := od_bindE h
  refine wd_virtI (q := 0) (y := y81) (as := [36893488147419103232, 18446859996812898932, 18446744073709551616, 1]) rfl rfl rfl (by decide) (Nat.le_of_ble_eq_true rfl) (Nat.le_of_ble_eq_true rfl) rfl (Nat.le_of_ble_eq_true rfl) rfl (dkT_20 T80 rfl rfl (wm_zlt (by decide)) e82) (fun p83 T84 => ?_)
  refine wq_istore_n rfl p83 (Nat.le_of_ble_eq_true rfl) (Or.inr ⟨_, rfl, rfl⟩) (L' := [36893488147419103232, y81.1]) rfl ?_
  refine wq_aload_n rfl rfl rfl ?_
  refine wq_ldc2 rfl (by decide) ?_
  refine wq_lconst rfl ?_
  refine wq_iconst rfl rfl ?_
  obtain ⟨y85, e86, h⟩ := od_bindE h
  refine wd_virtI (q := 0) (y := y85) (as := [36893488147419103232, 18446869853662836325, 18446744073709551616, 1]) rfl rfl rfl (by decide) (Nat.le_of_ble_eq_true rfl) (Nat.le_of_ble_eq_true rfl) rfl (Nat.le_of_ble_eq_true rfl) rfl (dkT_20 T84 rfl rfl (wm_zlt (by decide)) e86) (fun p87 T88 => ?_)
  refine wq_istore_n rfl p87 (Nat.le_of_ble_eq_true rfl) (Or.inr ⟨_, rfl, rfl⟩) (L' := [36893488147419103232, y85.1]) rfl ?_
  refine wq_aload_n rfl rfl rfl ?_
  refine wq_ldc2 rfl (by decide) ?_
  refine wq_lconst rfl ?_
  refine wq_iconst rfl rfl ?_
  obtain ⟨y89, e90, h⟩ := od_bindE h
  refine wd_virtI (q := 0) (y := y89) (as := [36893488147419103232, 18446853403954078068, 18446744073709551616, 1]) rfl rfl rfl (by decide) (Nat.le_of_ble_eq_true rfl) (Nat.le_of_ble_eq_true rfl) rfl (Nat.le_of_ble_eq_true rfl) rfl (dkT_20 T88 rfl rfl (wm_zlt (by decide)) e90) (fun p91 T92 => ?_)
  refine wq_istore_n rfl p91 (Nat.le_of_ble_eq_true rfl) (Or.inr ⟨_, rfl, rfl⟩) (L' := [36893488147419103232, y89.1]) rfl ?_
  refine wq_aload_n rfl rfl rfl ?_
  refine wq_ldc2 rfl (by decide) ?_
  refine wq_lconst rfl ?_
  refine wq_iconst rfl rfl ?_
  obtain ⟨y93, e94, h⟩ := od_bindE h
  refine wd_virtI (q := 0) (y := y93) (as := [36893488147419103232, 18446744075594982251, 18446744073709551616, 1]) rfl rfl rfl (by decide) (Nat.le_of_ble_eq_true rfl) (Nat.le_of_ble_eq_true rfl) rfl (Nat.le_of_ble_eq_true rfl) rfl (dkT_20 T92 rfl rfl (wm_zlt (by decide)) e94) (fun p95 T96 => ?_)
  refine wq_istore_n rfl p95 (Nat.le_of_ble_eq_true rfl) (Or.inr ⟨_, rfl, rfl⟩) (L' := [36893488147419103232, y93.1]) rfl ?_
  refine wq_aload_n rfl rfl rfl ?_
  refine wq_ldc2 rfl (by decide) ?_
  refine wq_lconst rfl ?_
  refine wq_iconst rfl rfl ?_
  obtain ⟨y97, e98, h⟩ := od_bindE h
  refine wd_virtI (q := 0) (y := y97) (as := [36893488147419103232, 18446873190901834603, 18446744073709551616, 1]) rfl rfl rfl (by decide) (Nat.le_of_ble_eq_true rfl) (Nat.le_of_ble_eq_true rfl) rfl (Nat.le_of_ble_eq_true rfl) rfl (dkT_20 T96 rfl rfl (wm_zlt (by decide)) e98) (fun p99 T100 => ?_)
  refine wq_istore_n rfl p99 (Nat.le_of_ble_eq_true rfl) (Or.inr ⟨_, rfl, rfl⟩) (L' := [36893488147419103232, y97.1]) rfl ?_
  refine wq_aload_n rfl rfl rfl ?_
  refine wq_ldc2 rfl (by decide) ?_
  refine wq_lconst rfl ?_
  refine wq_iconst rfl rfl ?_
  obtain ⟨y101, e102, h⟩ := od_bindE h
  refine wd_virtI (q := 0) (y := y101) (as := [36893488147419103232, 18446744073717118306, 18446744073709551616, 1]) rfl rfl rfl (by decide) (Nat.le_of_ble_eq_true rfl) (Nat.le_of_ble_eq_true rfl) rfl (Nat.le_of_ble_eq_true rfl) rfl (dkT_20 T100 rfl rfl (wm_zlt (by decide)) e102) (fun p103 T104 => ?_)
  refine wq_istore_n rfl p103 (Nat.le_of_ble_eq_true rfl) (Or.inr ⟨_, rfl, rfl⟩) (L' := [36893488147419103232, y101.1]) rfl ?_
  refine wq_aload_n rfl rfl rfl ?_
  refine wq_ldc2 rfl (by decide) ?_
  refine wq_lconst rfl ?_
  refine wq_iconst rfl rfl ?_
  obtain ⟨y105, e106, h⟩ := od_bindE h
  refine wd_virtI (q := 0) (y := y105) (as := [36893488147419103232, 18446744075361678437, 18446744073709551616, 1]) rfl rfl rfl (by decide) (Nat.le_of_ble_eq_true rfl) (Nat.le_of_ble_eq_true rfl) rfl (Nat.le_of_ble_eq_true rfl) rfl (dkT_20 T104 rfl rfl (wm_zlt (by decide)) e106) (fun p107 T108 => ?_)
  refine wq_istore_n rfl p107 (Nat.le_of_ble_eq_true rfl) (Or.inr ⟨_, rfl, rfl⟩) (L' := [36893488147419103232, y105.1]) rfl ?_
  refine wq_aload_n rfl rfl rfl ?_
  refine wq_ldc2 rfl (by decide) ?_
  refine wq_lconst rfl ?_
  refine wq_iconst rfl rfl ?_
  obtain ⟨y109, e110, h⟩ := od_bindE h
  refine wd_virtI (q := 0) (y := y109) (as := [36893488147419103232, 18446744075377336690, 18446744073709551616, 1]) rfl rfl rfl (by decide) (Nat.le_of_ble_eq_true rfl) (Nat.le_of_ble_eq_true rfl) rfl (Nat.le_of_ble_eq_true rfl) rfl (dkT_20 T108 rfl rfl (wm_zlt (by decide)) e110) (fun p111 T112 => ?_)
  refine wq_istore_n rfl p111 (Nat.le_of_ble_eq_true rfl) (Or.inr ⟨_, rfl, rfl⟩) (L' := [36893488147419103232, y109.1]) rfl ?_
  refine wq_aload_n rfl rfl rfl ?_
  refine wq_ldc2 rfl (by decide) ?_
  refine wq_lconst rfl ?_
  refine wq_iconst rfl rfl ?_
  obtain ⟨y113, e114, h⟩ := od_bindE h
  refine wd_virtI (q := 0) (y := y113) (as := [36893488147419103232, 18446744073717048688, 18446744073709551616, 1]) rfl rfl rfl (by decide) (Nat.le_of_ble_eq_true rfl) (Nat.le_of_ble_eq_true rfl) rfl (Nat.le_of_ble_eq_true rfl) rfl (dkT_20 T112 rfl rfl (wm_zlt (by decide)) e114) (fun p115 T116 => ?_)
  refine wq_istore_n rfl p115 (Nat.le_of_ble_eq_true rfl) (Or.inr ⟨_, rfl, rfl⟩) (L' := [36893488147419103232, y113.1]) rfl ?_
  refine wq_aload_n rfl rfl rfl ?_
  refine wq_ldc2 rfl (by decide) ?_
  refine wq_lconst rfl ?_
  refine wq_iconst rfl rfl ?_
  obtain ⟨y117, e118, h⟩ := od_bindE h
  refine wd_virtI (q := 0) (y := y117) (as := [36893488147419103232, 18446744073709578095, 18446744073709551616, 1]) rfl rfl rfl (by decide) (Nat.le_of_ble_eq_true rfl) (Nat.le_of_ble_eq_true rfl) rfl (Nat.le_of_ble_eq_true rfl) rfl (dkT_20 T116 rfl rfl (wm_zlt (by decide)) e118) (fun p119 T120 => ?_)
  refine wq_istore_n rfl p119 (Nat.le_of_ble_eq_true rfl) (Or.inr ⟨_, rfl, rfl⟩) (L' := [36893488147419103232, y117.1]) rfl ?_
  refine wq_aload_n rfl rfl rfl ?_
  refine wq_ldc2 rfl (by decide) ?_
  refine wq_lconst rfl ?_
  refine wq_iconst rfl rfl ?_
  obtain ⟨y121, e122, h⟩ := od_bindE h
  refine wd_virtI (q := 0) (y := y121) (as := [36893488147419103232, 18446744075646562160, 18446744073709551616, 1]) rfl rfl rfl (by decide) (Nat.le_of_ble_eq_true rfl) (Nat.le_of_ble_eq_true rfl) rfl (Nat.le_of_ble_eq_true rfl) rfl (dkT_20 T120 rfl rfl (wm_zlt (by decide)) e122) (fun p123 T124 => ?_)
  refine wq_istore_n rfl p123 (Nat.le_of_ble_eq_true rfl) (Or.inr ⟨_, rfl, rfl⟩) (L' := [36893488147419103232, y121.1]) rfl ?_
  refine wq_aload_n rfl rfl rfl ?_
  refine wq_ldc2 rfl (by decide) ?_
  refine wq_lconst rfl ?_
  refine wq_iconst rfl rfl ?_
  obtain ⟨y125, e126, h⟩ := od_bindE h
  refine wd_virtI (q := 0) (y := y125) (as := [36893488147419103232, 18446744569583334501, 18446744073709551616, 1]) rfl rfl rfl (by decide) (Nat.le_of_ble_eq_true rfl) (Nat.le_of_ble_eq_true rfl) rfl (Nat.le_of_ble_eq_true rfl) rfl (dkT_20 T124 rfl rfl (wm_zlt (by decide)) e126) (fun p127 T128 => ?_)
  refine wq_istore_n rfl p127 (Nat.le_of_ble_eq_true rfl) (Or.inr ⟨_, rfl, rfl⟩) (L' := [36893488147419103232, y125.1]) rfl ?_
  exact wq_ret rfl (wkON h T128)
/-- X12_internBuilt -/
def dk_17 (n : Nat) (F : wq_F) : Option (Nat × wq_F) :=
  (dk_20 n F 18473589102925342072 18446744073709551616 0).bind fun y1 =>
  (dk_20 n y1.2 25319077012174368356 18446744073709577592 0).bind fun y5 =>
  (dk_20 n y5.2 18446848937003412588 18446744073709551616 0).bind fun y9 =>
  (dk_20 n y9.2 18446744483331662948 18446744073709551616 0).bind fun y13 =>
  (dk_20 n y13.2 18446744483332846946 18446744073709551616 0).bind fun y17 =>
  (dk_20 n y17.2 18446744483332453740 18446744073709551616 0).bind fun y21 =>
  (dk_20 n y21.2 18446848937104271734 18446744073709551616 0).bind fun y25 =>
  (dk_20 n y25.2 18446744483332452196 18446744073709551616 0).bind fun y29 =>
  (dk_20 n y29.2 18446848936986635876 18446744073709551616 0).bind fun y33 =>
  (dk_20 n y33.2 18446744483331731314 18446744073709551616 0).bind fun y37 =>
  (dk_20 n y37.2 18446848936988143474 18446744073709551616 0).bind fun y41 =>
  (dk_20 n y41.2 18446744483332843628 18446744073709551616 0).bind fun y45 =>
  (dk_20 n y45.2 18446744483332843634 18446744073709551616 0).bind fun y49 =>
  (dk_20 n y49.2 18446744483332976237 18446744073709551616 0).bind fun y53 =>
  (dk_20 n y53.2 18446848936987488116 18446744073709551616 0).bind fun y57 =>
  (dk_20 n y57.2 25319064960344744308 18446744073709551616 0).bind fun y61 =>
  (dk_20 n y61.2 18446744483332384110 18446744073709551616 0).bind fun y65 =>
  (dk_20 n y65.2 18446744075309639025 18446744073709551616 0).bind fun y69 =>
  (dk_20 n y69.2 18446744075309640820 18446744073709551616 0).bind fun y73 =>
  (dk_20 n y73.2 18446744075309640805 18446744073709551616 0).bind fun y77 =>
  (dk_20 n y77.2 18446744075309639523 18446744073709551616 0).bind fun y81 =>
  (dk_20 n y81.2 18446848937172100197 18446744073709551616 0).bind fun y85 =>
  (dk_18 n y85.2).bind fun y89 =>
  (dk_19 n y89.2).bind fun y93 =>
  some (0, y93.2)
theorem dkT_17 {d n : Nat} {F : wq_F} (hT : wm_T F) {x : Nat × wq_F} (h : dk_17 n F = some x) : mq (d + 4 + 1) 17 [36893488147419103232] wm_sh F (wkN wm_T wm_sh x) := by
  have e : ev_ent [36893488147419103232] = [36893488147419103232] := by
    rfl
  refine mq_of (maxL := 2) (rt := none) (code := (ev_un al_mX12_internBuilt.2.2.2.2)) (L := [36893488147419103232, 73786976294838206464]) rfl (by rw [e]; exact Nat.le_of_ble_eq_true rfl) (by rw [e]; rfl) ?_
  unfold dk_17 at h
  refine wq_aload_n rfl rfl rfl ?_
  refine wq_ldc2 rfl (by decide) ?_
  refine wq_lconst rfl ?_
  refine wq_iconst rfl rfl ?_
  obtain ⟨y1, e2, h⟩ := od_bindE h
  refine wd_virtI (q := 0) (y := y1) (as := [36893488147419103232, 18473589102925342072, 18446744073709551616, 0]) rfl rfl rfl (by decide) (Nat.le_of_ble_eq_true rfl) (Nat.le_of_ble_eq_true rfl) rfl (Nat.le_of_ble_eq_true rfl) rfl (dkT_20 hT rfl rfl (wm_zlt (by decide)) e2) (fun p3 T4 => ?_)
  refine wq_istore_n rfl p3 (Nat.le_of_ble_eq_true rfl) (Or.inr ⟨_, rfl, rfl⟩) (L' := [36893488147419103232, y1.1]) rfl ?_
  refine wq_aload_n rfl rfl rfl ?_
  refine wq_ldc2 rfl (by decide) ?_
  refine wq_ldc2 rfl (by decide) ?_
  refine wq_iconst rfl rfl ?_
  obtain ⟨y5, e6, h⟩ := od_bindE h
  refine wd_virtI (q := 0) (y := y5) (as := [36893488147419103232, 25319077012174368356, 18446744073709577592, 0]) rfl rfl rfl (by decide) (Nat.le_of_ble_eq_true rfl) (Nat.le_of_ble_eq_true rfl) rfl (Nat.le_of_ble_eq_true rfl) rfl (dkT_20 T4 rfl rfl (wm_zlt (by decide)) e6) (fun p7 T8 => ?_)
  refine wq_istore_n rfl p7 (Nat.le_of_ble_eq_true rfl) (Or.inr ⟨_, rfl, rfl⟩) (L' := [36893488147419103232, y5.1]) rfl ?_
  refine wq_aload_n rfl rfl rfl ?_
  refine wq_ldc2 rfl (by decide) ?_
  refine wq_lconst rfl ?_
  refine wq_iconst rfl rfl ?_
  obtain ⟨y9, e10, h⟩ := od_bindE h
  refine wd_virtI (q := 0) (y := y9) (as := [36893488147419103232, 18446848937003412588, 18446744073709551616, 0]) rfl rfl rfl (by decide) (Nat.le_of_ble_eq_true rfl) (Nat.le_of_ble_eq_true rfl) rfl (Nat.le_of_ble_eq_true rfl) rfl (dkT_20 T8 rfl rfl (wm_zlt (by decide)) e10) (fun p11 T12 => ?_)
  refine wq_istore_n rfl p11 (Nat.le_of_ble_eq_true rfl) (Or.inr ⟨_, rfl, rfl⟩) (L' := [36893488147419103232, y9.1]) rfl ?_
  refine wq_aload_n rfl rfl rfl ?_
  refine wq_ldc2 rfl (by decide) ?_
  refine wq_lconst rfl ?_
  refine wq_iconst rfl rfl ?_
  obtain ⟨y13, e14, h⟩ := od_bindE h
  refine wd_virtI (q := 0) (y := y13) (as := [36893488147419103232, 18446744483331662948, 18446744073709551616, 0]) rfl rfl rfl (by decide) (Nat.le_of_ble_eq_true rfl) (Nat.le_of_ble_eq_true rfl) rfl (Nat.le_of_ble_eq_true rfl) rfl (dkT_20 T12 rfl rfl (wm_zlt (by decide)) e14) (fun p15 T16 => ?_)
  refine wq_istore_n rfl p15 (Nat.le_of_ble_eq_true rfl) (Or.inr ⟨_, rfl, rfl⟩) (L' := [36893488147419103232, y13.1]) rfl ?_
  refine wq_aload_n rfl rfl rfl ?_
  refine wq_ldc2 rfl (by decide) ?_
  refine wq_lconst rfl ?_
  refine wq_iconst rfl rfl ?_
  obtain ⟨y17, e18, h⟩ := od_bindE h
  refine wd_virtI (q := 0) (y := y17) (as := [36893488147419103232, 18446744483332846946, 18446744073709551616, 0]) rfl rfl rfl (by decide) (Nat.le_of_ble_eq_true rfl) (Nat.le_of_ble_eq_true rfl) rfl (Nat.le_of_ble_eq_true rfl) rfl (dkT_20 T16 rfl rfl (wm_zlt (by decide)) e18) (fun p19 T20 => ?_)
  refine wq_istore_n rfl p19 (Nat.le_of_ble_eq_true rfl) (Or.inr ⟨_, rfl, rfl⟩) (L' := [36893488147419103232, y17.1]) rfl ?_
  refine wq_aload_n rfl rfl rfl ?_
  refine wq_ldc2 rfl (by decide) ?_
  refine wq_lconst rfl ?_
  refine wq_iconst rfl rfl ?_
  obtain ⟨y21, e22, h⟩ := od_bindE h
  refine wd_virtI (q := 0) (y := y21) (as := [36893488147419103232, 18446744483332453740, 18446744073709551616, 0]) rfl rfl rfl (by decide) (Nat.le_of_ble_eq_true rfl) (Nat.le_of_ble_eq_true rfl) rfl (Nat.le_of_ble_eq_true rfl) rfl (dkT_20 T20 rfl rfl (wm_zlt (by decide)) e22) (fun p23 T24 => ?_)
  refine wq_istore_n rfl p23 (Nat.le_of_ble_eq_true rfl) (Or.inr ⟨_, rfl, rfl⟩) (L' := [36893488147419103232, y21.1]) rfl ?_
  refine wq_aload_n rfl rfl rfl ?_
  refine wq_ldc2 rfl (by decide) ?_
  refine wq_lconst rfl ?_
  refine wq_iconst rfl rfl ?_
  obtain ⟨y25, e26, h⟩ := od_bindE h
  refine wd_virtI (q := 0) (y := y25) (as := [36893488147419103232, 18446848937104271734, 18446744073709551616, 0]) rfl rfl rfl (by decide) (Nat.le_of_ble_eq_true rfl) (Nat.le_of_ble_eq_true rfl) rfl (Nat.le_of_ble_eq_true rfl) rfl (dkT_20 T24 rfl rfl (wm_zlt (by decide)) e26) (fun p27 T28 => ?_)
  refine wq_istore_n rfl p27 (Nat.le_of_ble_eq_true rfl) (Or.inr ⟨_, rfl, rfl⟩) (L' := [36893488147419103232, y25.1]) rfl ?_
  refine wq_aload_n rfl rfl rfl ?_
  refine wq_ldc2 rfl (by decide) ?_
  refine wq_lconst rfl ?_
  refine wq_iconst rfl rfl ?_
  obtain ⟨y29, e30, h⟩ := od_bindE h
  refine wd_virtI (q := 0) (y := y29) (as := [36893488147419103232, 18446744483332452196, 18446744073709551616, 0]) rfl rfl rfl (by decide) (Nat.le_of_ble_eq_true rfl) (Nat.le_of_ble_eq_true rfl) rfl (Nat.le_of_ble_eq_true rfl) rfl (dkT_20 T28 rfl rfl (wm_zlt (by decide)) e30) (fun p31 T32 => ?_)
  refine wq_istore_n rfl p31 (Nat.le_of_ble_eq_true rfl) (Or.inr ⟨_, rfl, rfl⟩) (L' := [36893488147419103232, y29.1]) rfl ?_
  refine wq_aload_n rfl rfl rfl ?_
  refine wq_ldc2 rfl (by decide) ?_
  refine wq_lconst rfl ?_
  refine wq_iconst rfl rfl ?_
  obtain ⟨y33, e34, h⟩ := od_bindE h
  refine wd_virtI (q := 0) (y := y33) (as := [36893488147419103232, 18446848936986635876, 18446744073709551616, 0]) rfl rfl rfl (by decide) (Nat.le_of_ble_eq_true rfl) (Nat.le_of_ble_eq_true rfl) rfl (Nat.le_of_ble_eq_true rfl) rfl (dkT_20 T32 rfl rfl (wm_zlt (by decide)) e34) (fun p35 T36 => ?_)
  refine wq_istore_n rfl p35 (Nat.le_of_ble_eq_true rfl) (Or.inr ⟨_, rfl, rfl⟩) (L' := [36893488147419103232, y33.1]) rfl ?_
  refine wq_aload_n rfl rfl rfl ?_
  refine wq_ldc2 rfl (by decide) ?_
  refine wq_lconst rfl ?_
  refine wq_iconst rfl rfl ?_
  obtain ⟨y37, e38, h⟩ := od_bindE h
  refine wd_virtI (q := 0) (y := y37) (as := [36893488147419103232, 18446744483331731314, 18446744073709551616, 0]) rfl rfl rfl (by decide) (Nat.le_of_ble_eq_true rfl) (Nat.le_of_ble_eq_true rfl) rfl (Nat.le_of_ble_eq_true rfl) rfl (dkT_20 T36 rfl rfl (wm_zlt (by decide)) e38) (fun p39 T40 => ?_)
  refine wq_istore_n rfl p39 (Nat.le_of_ble_eq_true rfl) (Or.inr ⟨_, rfl, rfl⟩) (L' := [36893488147419103232, y37.1]) rfl ?_
  refine wq_aload_n rfl rfl rfl ?_
  refine wq_ldc2 rfl (by decide) ?_
  refine wq_lconst rfl ?_
  refine wq_iconst rfl rfl ?_
  obtain ⟨y41, e42, h⟩ := od_bindE h
  refine wd_virtI (q := 0) (y := y41) (as := [36893488147419103232, 18446848936988143474, 18446744073709551616, 0]) rfl rfl rfl (by decide) (Nat.le_of_ble_eq_true rfl) (Nat.le_of_ble_eq_true rfl) rfl (Nat.le_of_ble_eq_true rfl) rfl (dkT_20 T40 rfl rfl (wm_zlt (by decide)) e42) (fun p43 T44 => ?_)
  refine wq_istore_n rfl p43 (Nat.le_of_ble_eq_true rfl) (Or.inr ⟨_, rfl, rfl⟩) (L' := [36893488147419103232, y41.1]) rfl ?_
  refine wq_aload_n rfl rfl rfl ?_
  refine wq_ldc2 rfl (by decide) ?_
  refine wq_lconst rfl ?_
  refine wq_iconst rfl rfl ?_
  obtain ⟨y45, e46, h⟩ := od_bindE h
  refine wd_virtI (q := 0) (y := y45) (as := [36893488147419103232, 18446744483332843628, 18446744073709551616, 0]) rfl rfl rfl (by decide) (Nat.le_of_ble_eq_true rfl) (Nat.le_of_ble_eq_true rfl) rfl (Nat.le_of_ble_eq_true rfl) rfl (dkT_20 T44 rfl rfl (wm_zlt (by decide)) e46) (fun p47 T48 => ?_)
  refine wq_istore_n rfl p47 (Nat.le_of_ble_eq_true rfl) (Or.inr ⟨_, rfl, rfl⟩) (L' := [36893488147419103232, y45.1]) rfl ?_
  refine wq_aload_n rfl rfl rfl ?_
  refine wq_ldc2 rfl (by decide) ?_
  refine wq_lconst rfl ?_
  refine wq_iconst rfl rfl ?_
  obtain ⟨y49, e50, h⟩ := od_bindE h
  refine wd_virtI (q := 0) (y := y49) (as := [36893488147419103232, 18446744483332843634, 18446744073709551616, 0]) rfl rfl rfl (by decide) (Nat.le_of_ble_eq_true rfl) (Nat.le_of_ble_eq_true rfl) rfl (Nat.le_of_ble_eq_true rfl) rfl (dkT_20 T48 rfl rfl (wm_zlt (by decide)) e50) (fun p51 T52 => ?_)
  refine wq_istore_n rfl p51 (Nat.le_of_ble_eq_true rfl) (Or.inr ⟨_, rfl, rfl⟩) (L' := [36893488147419103232, y49.1]) rfl ?_
  refine wq_aload_n rfl rfl rfl ?_
  refine wq_ldc2 rfl (by decide) ?_
  refine wq_lconst rfl ?_
  refine wq_iconst rfl rfl ?_
  obtain ⟨y53, e54, h⟩ := od_bindE h
  refine wd_virtI (q := 0) (y := y53) (as := [36893488147419103232, 18446744483332976237, 18446744073709551616, 0]) rfl rfl rfl (by decide) (Nat.le_of_ble_eq_true rfl) (Nat.le_of_ble_eq_true rfl) rfl (Nat.le_of_ble_eq_true rfl) rfl (dkT_20 T52 rfl rfl (wm_zlt (by decide)) e54) (fun p55 T56 => ?_)
  refine wq_istore_n rfl p55 (Nat.le_of_ble_eq_true rfl) (Or.inr ⟨_, rfl, rfl⟩) (L' := [36893488147419103232, y53.1]) rfl ?_
  refine wq_aload_n rfl rfl rfl ?_
  refine wq_ldc2 rfl (by decide) ?_
  refine wq_lconst rfl ?_
  refine wq_iconst rfl rfl ?_
  obtain ⟨y57, e58, h⟩ := od_bindE h
  refine wd_virtI (q := 0) (y := y57) (as := [36893488147419103232, 18446848936987488116, 18446744073709551616, 0]) rfl rfl rfl (by decide) (Nat.le_of_ble_eq_true rfl) (Nat.le_of_ble_eq_true rfl) rfl (Nat.le_of_ble_eq_true rfl) rfl (dkT_20 T56 rfl rfl (wm_zlt (by decide)) e58) (fun p59 T60 => ?_)
  refine wq_istore_n rfl p59 (Nat.le_of_ble_eq_true rfl) (Or.inr ⟨_, rfl, rfl⟩) (L' := [36893488147419103232, y57.1]) rfl ?_
  refine wq_aload_n rfl rfl rfl ?_
  refine wq_ldc2 rfl (by decide) ?_
  refine wq_lconst rfl ?_
  refine wq_iconst rfl rfl ?_
  obtain ⟨y61, e62, h⟩ := od_bindE h
  refine wd_virtI (q := 0) (y := y61) (as := [36893488147419103232, 25319064960344744308, 18446744073709551616, 0]) rfl rfl rfl (by decide) (Nat.le_of_ble_eq_true rfl) (Nat.le_of_ble_eq_true rfl) rfl (Nat.le_of_ble_eq_true rfl) rfl (dkT_20 T60 rfl rfl (wm_zlt (by decide)) e62) (fun p63 T64 => ?_)
  refine wq_istore_n rfl p63 (Nat.le_of_ble_eq_true rfl) (Or.inr ⟨_, rfl, rfl⟩) (L' := [36893488147419103232, y61.1]) rfl ?_
  refine wq_aload_n rfl rfl rfl ?_
  refine wq_ldc2 rfl (by decide) ?_
  refine wq_lconst rfl ?_
  refine wq_iconst rfl rfl ?_
  obtain ⟨y65, e66, h⟩ := od_bindE h
  refine wd_virtI (q := 0) (y := y65) (as := [36893488147419103232, 18446744483332384110, 18446744073709551616, 0]) rfl rfl rfl (by decide) (Nat.le_of_ble_eq_true rfl) (Nat.le_of_ble_eq_true rfl) rfl (Nat.le_of_ble_eq_true rfl) rfl (dkT_20 T64 rfl rfl (wm_zlt (by decide)) e66) (fun p67 T68 => ?_)
  refine wq_istore_n rfl p67 (Nat.le_of_ble_eq_true rfl) (Or.inr ⟨_, rfl, rfl⟩) (L' := [36893488147419103232, y65.1]) rfl ?_
  refine wq_aload_n rfl rfl rfl ?_
  refine wq_ldc2 rfl (by decide) ?_
  refine wq_lconst rfl ?_
  refine wq_iconst rfl rfl ?_
  obtain ⟨y69, e70, h⟩ := od_bindE h
  refine wd_virtI (q := 0) (y := y69) (as := [36893488147419103232, 18446744075309639025, 18446744073709551616, 0]) rfl rfl rfl (by decide) (Nat.le_of_ble_eq_true rfl) (Nat.le_of_ble_eq_true rfl) rfl (Nat.le_of_ble_eq_true rfl) rfl (dkT_20 T68 rfl rfl (wm_zlt (by decide)) e70) (fun p71 T72 => ?_)
  refine wq_istore_n rfl p71 (Nat.le_of_ble_eq_true rfl) (Or.inr ⟨_, rfl, rfl⟩) (L' := [36893488147419103232, y69.1]) rfl ?_
  refine wq_aload_n rfl rfl rfl ?_
  refine wq_ldc2 rfl (by decide) ?_
  refine wq_lconst rfl ?_
  refine wq_iconst rfl rfl ?_
  obtain ⟨y73, e74, h⟩ := od_bindE h
  refine wd_virtI (q := 0) (y := y73) (as := [36893488147419103232, 18446744075309640820, 18446744073709551616, 0]) rfl rfl rfl (by decide) (Nat.le_of_ble_eq_true rfl) (Nat.le_of_ble_eq_true rfl) rfl (Nat.le_of_ble_eq_true rfl) rfl (dkT_20 T72 rfl rfl (wm_zlt (by decide)) e74) (fun p75 T76 => ?_)
  refine wq_istore_n rfl p75 (Nat.le_of_ble_eq_true rfl) (Or.inr ⟨_, rfl, rfl⟩) (L' := [36893488147419103232, y73.1]) rfl ?_
  refine wq_aload_n rfl rfl rfl ?_
  refine wq_ldc2 rfl (by decide) ?_
  refine wq_lconst rfl ?_
  refine wq_iconst rfl rfl ?_
  obtain ⟨y77, e78, h⟩ := od_bindE h
  refine wd_virtI (q := 0) (y := y77) (as := [36893488147419103232, 18446744075309640805, 18446744073709551616, 0]) rfl rfl rfl (by decide) (Nat.le_of_ble_eq_true rfl) (Nat.le_of_ble_eq_true rfl) rfl (Nat.le_of_ble_eq_true rfl) rfl (dkT_20 T76 rfl rfl (wm_zlt (by decide)) e78) (fun p79 T80 => ?_)
  refine wq_istore_n rfl p79 (Nat.le_of_ble_eq_true rfl) (Or.inr ⟨_, rfl, rfl⟩) (L' := [36893488147419103232, y77.1]) rfl ?_
  refine wq_aload_n rfl rfl rfl ?_
  refine wq_ldc2 rfl (by decide) ?_
  refine wq_lconst rfl ?_
  refine wq_iconst rfl rfl ?_
  obtain ⟨y81, e82, h⟩ := od_bindE h
  refine wd_virtI (q := 0) (y := y81) (as := [36893488147419103232, 18446744075309639523, 18446744073709551616, 0]) rfl rfl rfl (by decide) (Nat.le_of_ble_eq_true rfl) (Nat.le_of_ble_eq_true rfl) rfl (Nat.le_of_ble_eq_true rfl) rfl (dkT_20 T80 rfl rfl (wm_zlt (by decide)) e82) (fun p83 T84 => ?_)
  refine wq_istore_n rfl p83 (Nat.le_of_ble_eq_true rfl) (Or.inr ⟨_, rfl, rfl⟩) (L' := [36893488147419103232, y81.1]) rfl ?_
  refine wq_aload_n rfl rfl rfl ?_
  refine wq_ldc2 rfl (by decide) ?_
  refine wq_lconst rfl ?_
  refine wq_iconst rfl rfl ?_
  obtain ⟨y85, e86, h⟩ := od_bindE h
  refine wd_virtI (q := 0) (y := y85) (as := [36893488147419103232, 18446848937172100197, 18446744073709551616, 0]) rfl rfl rfl (by decide) (Nat.le_of_ble_eq_true rfl) (Nat.le_of_ble_eq_true rfl) rfl (Nat.le_of_ble_eq_true rfl) rfl (dkT_20 T84 rfl rfl (wm_zlt (by decide)) e86) (fun p87 T88 => ?_)
  refine wq_istore_n rfl p87 (Nat.le_of_ble_eq_true rfl) (Or.inr ⟨_, rfl, rfl⟩) (L' := [36893488147419103232, y85.1]) rfl ?_
  refine wq_aload_n rfl rfl rfl ?_
  obtain ⟨y89, e90, h⟩ := od_bindE h
  refine wd_virtN (q := 0) (y := y89) (as := [36893488147419103232]) rfl rfl rfl (by decide) (Nat.le_of_ble_eq_true rfl) (Nat.le_of_ble_eq_true rfl) rfl (Nat.le_of_ble_eq_true rfl) rfl (dkT_18 T88 e90) (fun T92 => ?_)
  refine wq_aload_n rfl rfl rfl ?_
  obtain ⟨y93, e94, h⟩ := od_bindE h
  refine wd_virtN (q := 0) (y := y93) (as := [36893488147419103232]) rfl rfl rfl (by decide) (Nat.le_of_ble_eq_true rfl) (Nat.le_of_ble_eq_true rfl) rfl (Nat.le_of_ble_eq_true rfl) rfl (dkT_19 T92 e94) (fun T96 => ?_)
  exact wq_ret rfl (wkON h T96)
def dk_25_46 (n : Nat) (r0 : wq_F → Nat → Nat → Option (Nat × wq_F)) (F : wq_F) (v1 : Nat) (v2 : Nat) (v3 : Nat) : Option (Nat × wq_F) :=
  if ev_s v3 < ev_s 1024 then
    od_g (F 0 14 < 3000) <|
    od_g (v3 < 1024) <|
    od_up F 7 v3 (F 6 (F 0 14)) fun F4 =>
    r0 F4 v1 v2
  else
    r0 F v1 v2
theorem dk_25_46T {d n : Nat} {r0 : wq_F → Nat → Nat → Option (Nat × wq_F)} (hr0 : ∀ ⦃u3 : Nat⦄ ⦃F : wq_F⦄ (hT : wm_T F) ⦃v1 : Nat⦄ (hv1 : v1 < 4294967296) ⦃v2 : Nat⦄ (hv2 : v2 < 4294967296) (hu3 : ev_isL u3 = false) ⦃x : Nat × wq_F⦄ (h : r0 F v1 v2 = some x), wq (wq_cf (d + 0)) (ev_un al_mX12_forgetFrom.2.2.2.2) none 0 [36893488147419103232, v1, v2, u3] [] wm_sh F 0 0 (wkN wm_T wm_sh x)) : ∀ ⦃F : wq_F⦄ (hT : wm_T F) ⦃v1 : Nat⦄ (hv1 : v1 < 4294967296) ⦃v2 : Nat⦄ (hv2 : v2 < 4294967296) ⦃v3 : Nat⦄ (hv3 : v3 < 4294967296) ⦃x : Nat × wq_F⦄ (h : dk_25_46 n r0 F v1 v2 v3 = some x), wq (wq_cf (d + 0)) (ev_un al_mX12_forgetFrom.2.2.2.2) none 46 [36893488147419103232, v1, v2, v3] [] wm_sh F 0 0 (wkN wm_T wm_sh x) := by
  intro F hT v1 hv1 v2 hv2 v3 hv3 x h
  unfold dk_25_46 at h
  refine wq_iload_n rfl rfl hv3 ?_
  refine wq_sipush rfl rfl ?_
  refine wq_ic_ge rfl rfl hv3 (by decide) (fun h1 => ?_) (fun h1 => ?_)
  · replace h := od_neg h (Nat.not_lt.mpr h1)
    refine wq_goto rfl rfl ?_
    exact hr0 hT hv1 hv2 (wq_notL hv3) h
  · replace h := od_pos h h1
    refine wq_aload_n rfl rfl rfl ?_
    refine wm_getR (v := 36893488147419103239) rfl (by decide) (hT.r 13 6 rfl) ?_
    refine wq_iload_n rfl rfl hv3 ?_
    refine wq_aload_n rfl rfl rfl ?_
    refine wm_getR (v := 36893488147419103238) rfl (by decide) (hT.r 12 5 rfl) ?_
    refine wq_aload_n rfl rfl rfl ?_
    refine wm_getI rfl (by decide) ?_
    obtain ⟨g2, h⟩ := od_gE h
    refine wq_iaload (q := 6) (n := 3000) rfl rfl (by decide) g2 (by decide) ?_
    obtain ⟨g3, h⟩ := od_gE h
    obtain ⟨F4, e5, h⟩ := od_upE h
    refine wd_iastore (q := 7) (n := 1024) rfl rfl (by decide) g3 (by decide) (hT.ai (k := 6) rfl g2) e5 ?_
    have T6 : wm_T F4 := wd_T e5 (hT.ua (k := 7) (kd := 1000) (n := 1024) (i := v3) (v := F 6 (F 0 14)) rfl (by decide) g3 (show F 6 (F 0 14) < 4294967296 from (hT.ai (k := 6) rfl g2)))
    refine wq_goto rfl rfl ?_
    exact hr0 T6 hv1 hv2 (wq_notL hv3) h
def dk_25_20b (n : Nat) (r0 : wq_F → Nat → Nat → Option (Nat × wq_F)) (r20 : wq_F → Nat → Nat → Nat → Option (Nat × wq_F)) (F : wq_F) (v1 : Nat) (v2 : Nat) (v3 : Nat) : Option (Nat × wq_F) :=
  if ev_s v3 < ev_s 1024 then
    od_g (v3 < 1024) <|
    if (F 7 v3) = (F 0 14) then
      dk_25_46 n r0 F v1 v2 v3
    else
      od_let ((v3 + 1) % 4294967296) fun y4 =>
      r20 F v1 v2 y4
  else
    dk_25_46 n r0 F v1 v2 v3
theorem dk_25_20bT {d n : Nat} {r0 : wq_F → Nat → Nat → Option (Nat × wq_F)} {r20 : wq_F → Nat → Nat → Nat → Option (Nat × wq_F)} (hr0 : ∀ ⦃u3 : Nat⦄ ⦃F : wq_F⦄ (hT : wm_T F) ⦃v1 : Nat⦄ (hv1 : v1 < 4294967296) ⦃v2 : Nat⦄ (hv2 : v2 < 4294967296) (hu3 : ev_isL u3 = false) ⦃x : Nat × wq_F⦄ (h : r0 F v1 v2 = some x), wq (wq_cf (d + 0)) (ev_un al_mX12_forgetFrom.2.2.2.2) none 0 [36893488147419103232, v1, v2, u3] [] wm_sh F 0 0 (wkN wm_T wm_sh x)) (hr20 : ∀ ⦃F : wq_F⦄ (hT : wm_T F) ⦃v1 : Nat⦄ (hv1 : v1 < 4294967296) ⦃v2 : Nat⦄ (hv2 : v2 < 4294967296) ⦃v3 : Nat⦄ (hv3 : v3 < 4294967296) ⦃x : Nat × wq_F⦄ (h : r20 F v1 v2 v3 = some x), wq (wq_cf (d + 0)) (ev_un al_mX12_forgetFrom.2.2.2.2) none 20 [36893488147419103232, v1, v2, v3] [] wm_sh F 0 0 (wkN wm_T wm_sh x)) : ∀ ⦃F : wq_F⦄ (hT : wm_T F) ⦃v1 : Nat⦄ (hv1 : v1 < 4294967296) ⦃v2 : Nat⦄ (hv2 : v2 < 4294967296) ⦃v3 : Nat⦄ (hv3 : v3 < 4294967296) ⦃x : Nat × wq_F⦄ (h : dk_25_20b n r0 r20 F v1 v2 v3 = some x), wq (wq_cf (d + 0)) (ev_un al_mX12_forgetFrom.2.2.2.2) none 20 [36893488147419103232, v1, v2, v3] [] wm_sh F 0 0 (wkN wm_T wm_sh x) := by
  intro F hT v1 hv1 v2 hv2 v3 hv3 x h
  unfold dk_25_20b at h
  refine wq_iload_n rfl rfl hv3 ?_
  refine wq_sipush rfl rfl ?_
  refine wq_ic_ge rfl rfl hv3 (by decide) (fun h1 => ?_) (fun h1 => ?_)
  · replace h := od_neg h (Nat.not_lt.mpr h1)
    exact dk_25_46T hr0 hT hv1 hv2 hv3 h
  · replace h := od_pos h h1
    refine wq_aload_n rfl rfl rfl ?_
    refine wm_getR (v := 36893488147419103239) rfl (by decide) (hT.r 13 6 rfl) ?_
    refine wq_iload_n rfl rfl hv3 ?_
    obtain ⟨g2, h⟩ := od_gE h
    refine wq_iaload (q := 7) (n := 1024) rfl rfl (by decide) g2 (by decide) ?_
    refine wq_aload_n rfl rfl rfl ?_
    refine wm_getI rfl (by decide) ?_
    refine wq_ic_eq rfl rfl (hT.ai (k := 7) rfl g2) (hT.i 14 rfl) (fun h3 => ?_) (fun h3 => ?_)
    · replace h := od_pos h h3
      exact dk_25_46T hr0 hT hv1 hv2 hv3 h
    · replace h := od_neg h h3
      obtain ⟨y4, e5, h⟩ := od_letE h
      have p6 : y4 < 4294967296 := wd_lt e5 (Nat.mod_lt _ (by decide))
      refine wq_iincZ rfl rfl hv3 (Or.inr ⟨_, rfl, (wq_notL hv2)⟩) rfl (z := y4) e5.symm (L' := [36893488147419103232, v1, v2, y4]) rfl ?_
      refine wq_goto rfl rfl ?_
      exact hr20 hT hv1 hv2 p6 h
def dk_25_20 (n : Nat) (r0 : wq_F → Nat → Nat → Option (Nat × wq_F)) : Nat → wq_F → Nat → Nat → Nat → Option (Nat × wq_F)
  | 0 => fun _ _ _ _ => none
  | g + 1 => dk_25_20b n r0 (dk_25_20 n r0 g)
theorem dk_25_20T {d n : Nat} {r0 : wq_F → Nat → Nat → Option (Nat × wq_F)} (hr0 : ∀ ⦃u3 : Nat⦄ ⦃F : wq_F⦄ (hT : wm_T F) ⦃v1 : Nat⦄ (hv1 : v1 < 4294967296) ⦃v2 : Nat⦄ (hv2 : v2 < 4294967296) (hu3 : ev_isL u3 = false) ⦃x : Nat × wq_F⦄ (h : r0 F v1 v2 = some x), wq (wq_cf (d + 0)) (ev_un al_mX12_forgetFrom.2.2.2.2) none 0 [36893488147419103232, v1, v2, u3] [] wm_sh F 0 0 (wkN wm_T wm_sh x)) : ∀ g : Nat, ∀ ⦃F : wq_F⦄ (hT : wm_T F) ⦃v1 : Nat⦄ (hv1 : v1 < 4294967296) ⦃v2 : Nat⦄ (hv2 : v2 < 4294967296) ⦃v3 : Nat⦄ (hv3 : v3 < 4294967296) ⦃x : Nat × wq_F⦄ (h : dk_25_20 n r0 g F v1 v2 v3 = some x), wq (wq_cf (d + 0)) (ev_un al_mX12_forgetFrom.2.2.2.2) none 20 [36893488147419103232, v1, v2, v3] [] wm_sh F 0 0 (wkN wm_T wm_sh x)
  | 0 => by
    intro F hT v1 hv1 v2 hv2 v3 hv3 x h
    cases h
  | g + 1 => dk_25_20bT hr0 (dk_25_20T hr0 g)
def dk_25_0b (n : Nat) (r0 : wq_F → Nat → Nat → Option (Nat × wq_F)) (F : wq_F) (v1 : Nat) (v2 : Nat) : Option (Nat × wq_F) :=
  if ev_s v1 < ev_s (F 0 14) then
    od_let (((F 0 14) + (4294967296 - 1)) % 4294967296) fun y5 =>
    od_up F 0 14 y5 fun F8 =>
    dk_25_20 n r0 n F8 v1 v2 0
  else
    od_up F 0 8 v2 fun F2 =>
    some (0, F2)
theorem dk_25_0bT {d n : Nat} {r0 : wq_F → Nat → Nat → Option (Nat × wq_F)} (hr0 : ∀ ⦃u3 : Nat⦄ ⦃F : wq_F⦄ (hT : wm_T F) ⦃v1 : Nat⦄ (hv1 : v1 < 4294967296) ⦃v2 : Nat⦄ (hv2 : v2 < 4294967296) (hu3 : ev_isL u3 = false) ⦃x : Nat × wq_F⦄ (h : r0 F v1 v2 = some x), wq (wq_cf (d + 0)) (ev_un al_mX12_forgetFrom.2.2.2.2) none 0 [36893488147419103232, v1, v2, u3] [] wm_sh F 0 0 (wkN wm_T wm_sh x)) : ∀ ⦃u3 : Nat⦄ ⦃F : wq_F⦄ (hT : wm_T F) ⦃v1 : Nat⦄ (hv1 : v1 < 4294967296) ⦃v2 : Nat⦄ (hv2 : v2 < 4294967296) (hu3 : ev_isL u3 = false) ⦃x : Nat × wq_F⦄ (h : dk_25_0b n r0 F v1 v2 = some x), wq (wq_cf (d + 0)) (ev_un al_mX12_forgetFrom.2.2.2.2) none 0 [36893488147419103232, v1, v2, u3] [] wm_sh F 0 0 (wkN wm_T wm_sh x) := by
  intro u3 F hT v1 hv1 v2 hv2 hu3 x h
  unfold dk_25_0b at h
  refine wq_aload_n rfl rfl rfl ?_
  refine wm_getI rfl (by decide) ?_
  refine wq_iload_n rfl rfl hv1 ?_
  refine wq_ic_le rfl rfl (hT.i 14 rfl) hv1 (fun h1 => ?_) (fun h1 => ?_)
  · replace h := od_neg h (Nat.not_lt.mpr h1)
    refine wq_aload_n rfl rfl rfl ?_
    refine wq_iload_n rfl rfl hv2 ?_
    obtain ⟨F2, e3, h⟩ := od_upE h
    refine wmE_put rfl (by decide) (wq_I hv2) e3 ?_
    have T4 : wm_T F2 := wd_T e3 (hT.uf (f := 8) (c := 0) (v := v2) rfl (show v2 < 4294967296 from hv2))
    exact wq_ret rfl (wkON h T4)
  · replace h := od_pos h h1
    refine wq_aload_n rfl rfl rfl ?_
    refine wq_dup rfl rfl ?_
    refine wm_getI rfl (by decide) ?_
    refine wq_iconst rfl rfl ?_
    refine wq_isubZ rfl (hT.i 14 rfl) (wm_zlt (by decide)) (z := ((F 0 14) + (4294967296 - 1)) % 4294967296) rfl ?_
    obtain ⟨y5, e6, h⟩ := od_letE h
    refine wq_top e6.symm ?_
    have p7 : y5 < 4294967296 := wd_lt e6 (Nat.mod_lt _ (by decide))
    obtain ⟨F8, e9, h⟩ := od_upE h
    refine wmE_put rfl (by decide) (wq_I p7) e9 ?_
    have T10 : wm_T F8 := wd_T e9 (hT.uf (f := 14) (c := 0) (v := y5) rfl (show y5 < 4294967296 from p7))
    refine wq_iconst rfl rfl ?_
    refine wq_istore_n rfl (wm_zlt (by decide)) (Nat.le_of_ble_eq_true rfl) (Or.inr ⟨_, rfl, (wq_notL hv2)⟩) (L' := [36893488147419103232, v1, v2, 0]) rfl ?_
    exact dk_25_20T hr0 n T10 hv1 hv2 (wm_zlt (by decide)) h
def dk_25_0 (n : Nat) : Nat → wq_F → Nat → Nat → Option (Nat × wq_F)
  | 0 => fun _ _ _ => none
  | g + 1 => dk_25_0b n (dk_25_0 n g)
theorem dk_25_0T {d n : Nat} : ∀ g : Nat, ∀ ⦃u3 : Nat⦄ ⦃F : wq_F⦄ (hT : wm_T F) ⦃v1 : Nat⦄ (hv1 : v1 < 4294967296) ⦃v2 : Nat⦄ (hv2 : v2 < 4294967296) (hu3 : ev_isL u3 = false) ⦃x : Nat × wq_F⦄ (h : dk_25_0 n g F v1 v2 = some x), wq (wq_cf (d + 0)) (ev_un al_mX12_forgetFrom.2.2.2.2) none 0 [36893488147419103232, v1, v2, u3] [] wm_sh F 0 0 (wkN wm_T wm_sh x)
  | 0 => by
    intro u3 F hT v1 hv1 v2 hv2 hu3 x h
    cases h
  | g + 1 => dk_25_0bT (dk_25_0T g)
/-- X12_forgetFrom -/
def dk_25 (n : Nat) (F : wq_F) (a0 : Nat) (a1 : Nat) : Option (Nat × wq_F) :=
  dk_25_0 n n F a0 a1
theorem dkT_25 {d n : Nat} {F : wq_F} (hT : wm_T F) {a0 : Nat} (ha0 : a0 < 4294967296) {a1 : Nat} (ha1 : a1 < 4294967296) {x : Nat × wq_F} (h : dk_25 n F a0 a1 = some x) : mq (d + 0 + 1) 25 [36893488147419103232, a0, a1] wm_sh F (wkN wm_T wm_sh x) := by
  have e : ev_ent [36893488147419103232, a0, a1] = [36893488147419103232, a0, a1] := by
    show 36893488147419103232 :: ev_ent [a0, a1] = _
    rw [wm_entI ha0, wm_entI ha1]
    rfl
  refine mq_of (maxL := 4) (rt := none) (code := (ev_un al_mX12_forgetFrom.2.2.2.2)) (L := [36893488147419103232, a0, a1, 73786976294838206464]) rfl (by rw [e]; exact Nat.le_of_ble_eq_true rfl) (by rw [e]; rfl) ?_
  unfold dk_25 at h
  exact dk_25_0T n hT ha0 ha1 rfl h
/-- X12_wordBehind -/
def dk_201 (F : wq_F) (a0 : Nat) : Option (Nat × wq_F) :=
  od_let (ev_oCmpL (a0 - 18446744073709551616) (18446744539434803564 - 18446744073709551616)) fun y1 =>
  if y1 = 0 then
    some (12, F)
  else
    od_let (ev_oCmpL (a0 - 18446744073709551616) (18446744073716787564 - 18446744073709551616)) fun y5 =>
    if y5 = 0 then
      some (13, F)
    else
      od_let (ev_oCmpL (a0 - 18446744073709551616) (18446744073716789108 - 18446744073709551616)) fun y9 =>
      if y9 = 0 then
        some (14, F)
      else
        od_let (ev_oCmpL (a0 - 18446744073709551616) (18446744073709580146 - 18446744073709551616)) fun y13 =>
        if y13 = 0 then
          some (15, F)
        else
          od_let (ev_oCmpL (a0 - 18446744073709551616) (18446869853712507252 - 18446744073709551616)) fun y17 =>
          if y17 = 0 then
            some (16, F)
          else
            od_let (ev_oCmpL (a0 - 18446744073709551616) (18446869853780669038 - 18446744073709551616)) fun y21 =>
            if y21 = 0 then
              some (17, F)
            else
              od_let (ev_oCmpL (a0 - 18446744073709551616) (18446744075662550382 - 18446744073709551616)) fun y25 =>
              if y25 = 0 then
                some (18, F)
              else
                od_let (ev_oCmpL (a0 - 18446744073709551616) (18446744075663209829 - 18446744073709551616)) fun y29 =>
                if y29 = 0 then
                  some (19, F)
                else
                  od_let (ev_oCmpL (a0 - 18446744073709551616) (18446744578073848172 - 18446744073709551616)) fun y33 =>
                  if y33 = 0 then
                    some (20, F)
                  else
                    od_let (ev_oCmpL (a0 - 18446744073709551616) (18446744586562399333 - 18446744073709551616)) fun y37 =>
                    if y37 = 0 then
                      some (21, F)
                    else
                      some (0, F)
theorem dkT_201 {d : Nat} {F : wq_F} (hT : wm_T F) {a0 : Nat} (ha0 : ev_isL a0 = true) {x : Nat × wq_F} (h : dk_201 F a0 = some x) : mq (d + 0 + 1) 201 [a0] wm_sh F (wkI wm_T wm_sh x) := by
  have e : ev_ent [a0] = [a0, 73786976294838206464] := by
    rw [wd_entL ha0]
    rfl
  refine mq_of (maxL := 2) (rt := (some .int)) (code := (ev_un al_mX12_wordBehind.2.2.2.2)) (L := [a0, 73786976294838206464]) rfl (by rw [e]; exact Nat.le_of_ble_eq_true rfl) (by rw [e]; rfl) ?_
  unfold dk_201 at h
  refine wq_lload_n rfl rfl ha0 ?_
  refine wq_ldc2 rfl (by decide) ?_
  refine wq_lcmp rfl ha0 rfl ?_
  obtain ⟨y1, e2, h⟩ := od_letE h
  refine wq_top e2.symm ?_
  have p3 : y1 < 4294967296 := wd_lt e2 (wq_oCmp_lt _ _)
  refine wq_if_ne rfl rfl p3 (fun h4 => ?_) (fun h4 => ?_)
  · replace h := od_neg h h4
    refine wq_lload_n rfl rfl ha0 ?_
    refine wq_ldc2 rfl (by decide) ?_
    refine wq_lcmp rfl ha0 rfl ?_
    obtain ⟨y5, e6, h⟩ := od_letE h
    refine wq_top e6.symm ?_
    have p7 : y5 < 4294967296 := wd_lt e6 (wq_oCmp_lt _ _)
    refine wq_if_ne rfl rfl p7 (fun h8 => ?_) (fun h8 => ?_)
    · replace h := od_neg h h8
      refine wq_lload_n rfl rfl ha0 ?_
      refine wq_ldc2 rfl (by decide) ?_
      refine wq_lcmp rfl ha0 rfl ?_
      obtain ⟨y9, e10, h⟩ := od_letE h
      refine wq_top e10.symm ?_
      have p11 : y9 < 4294967296 := wd_lt e10 (wq_oCmp_lt _ _)
      refine wq_if_ne rfl rfl p11 (fun h12 => ?_) (fun h12 => ?_)
      · replace h := od_neg h h12
        refine wq_lload_n rfl rfl ha0 ?_
        refine wq_ldc2 rfl (by decide) ?_
        refine wq_lcmp rfl ha0 rfl ?_
        obtain ⟨y13, e14, h⟩ := od_letE h
        refine wq_top e14.symm ?_
        have p15 : y13 < 4294967296 := wd_lt e14 (wq_oCmp_lt _ _)
        refine wq_if_ne rfl rfl p15 (fun h16 => ?_) (fun h16 => ?_)
        · replace h := od_neg h h16
          refine wq_lload_n rfl rfl ha0 ?_
          refine wq_ldc2 rfl (by decide) ?_
          refine wq_lcmp rfl ha0 rfl ?_
          obtain ⟨y17, e18, h⟩ := od_letE h
          refine wq_top e18.symm ?_
          have p19 : y17 < 4294967296 := wd_lt e18 (wq_oCmp_lt _ _)
          refine wq_if_ne rfl rfl p19 (fun h20 => ?_) (fun h20 => ?_)
          · replace h := od_neg h h20
            refine wq_lload_n rfl rfl ha0 ?_
            refine wq_ldc2 rfl (by decide) ?_
            refine wq_lcmp rfl ha0 rfl ?_
            obtain ⟨y21, e22, h⟩ := od_letE h
            refine wq_top e22.symm ?_
            have p23 : y21 < 4294967296 := wd_lt e22 (wq_oCmp_lt _ _)
            refine wq_if_ne rfl rfl p23 (fun h24 => ?_) (fun h24 => ?_)
            · replace h := od_neg h h24
              refine wq_lload_n rfl rfl ha0 ?_
              refine wq_ldc2 rfl (by decide) ?_
              refine wq_lcmp rfl ha0 rfl ?_
              obtain ⟨y25, e26, h⟩ := od_letE h
              refine wq_top e26.symm ?_
              have p27 : y25 < 4294967296 := wd_lt e26 (wq_oCmp_lt _ _)
              refine wq_if_ne rfl rfl p27 (fun h28 => ?_) (fun h28 => ?_)
              · replace h := od_neg h h28
                refine wq_lload_n rfl rfl ha0 ?_
                refine wq_ldc2 rfl (by decide) ?_
                refine wq_lcmp rfl ha0 rfl ?_
                obtain ⟨y29, e30, h⟩ := od_letE h
                refine wq_top e30.symm ?_
                have p31 : y29 < 4294967296 := wd_lt e30 (wq_oCmp_lt _ _)
                refine wq_if_ne rfl rfl p31 (fun h32 => ?_) (fun h32 => ?_)
                · replace h := od_neg h h32
                  refine wq_lload_n rfl rfl ha0 ?_
                  refine wq_ldc2 rfl (by decide) ?_
                  refine wq_lcmp rfl ha0 rfl ?_
                  obtain ⟨y33, e34, h⟩ := od_letE h
                  refine wq_top e34.symm ?_
                  have p35 : y33 < 4294967296 := wd_lt e34 (wq_oCmp_lt _ _)
                  refine wq_if_ne rfl rfl p35 (fun h36 => ?_) (fun h36 => ?_)
                  · replace h := od_neg h h36
                    refine wq_lload_n rfl rfl ha0 ?_
                    refine wq_ldc2 rfl (by decide) ?_
                    refine wq_lcmp rfl ha0 rfl ?_
                    obtain ⟨y37, e38, h⟩ := od_letE h
                    refine wq_top e38.symm ?_
                    have p39 : y37 < 4294967296 := wd_lt e38 (wq_oCmp_lt _ _)
                    refine wq_if_ne rfl rfl p39 (fun h40 => ?_) (fun h40 => ?_)
                    · replace h := od_neg h h40
                      refine wq_iconst rfl rfl ?_
                      exact wq_iret rfl (wm_zlt (by decide)) rfl (wkOI h hT (wm_zlt (by decide)))
                    · replace h := od_pos h h40
                      refine wq_bipush rfl rfl ?_
                      refine wq_goto rfl rfl ?_
                      exact wq_iret rfl (by decide) rfl (wkOI h hT (by decide))
                  · replace h := od_pos h h36
                    refine wq_bipush rfl rfl ?_
                    exact wq_iret rfl (by decide) rfl (wkOI h hT (by decide))
                · replace h := od_pos h h32
                  refine wq_bipush rfl rfl ?_
                  exact wq_iret rfl (by decide) rfl (wkOI h hT (by decide))
              · replace h := od_pos h h28
                refine wq_bipush rfl rfl ?_
                exact wq_iret rfl (by decide) rfl (wkOI h hT (by decide))
            · replace h := od_pos h h24
              refine wq_bipush rfl rfl ?_
              exact wq_iret rfl (by decide) rfl (wkOI h hT (by decide))
          · replace h := od_pos h h20
            refine wq_bipush rfl rfl ?_
            exact wq_iret rfl (by decide) rfl (wkOI h hT (by decide))
        · replace h := od_pos h h16
          refine wq_bipush rfl rfl ?_
          exact wq_iret rfl (by decide) rfl (wkOI h hT (by decide))
      · replace h := od_pos h h12
        refine wq_bipush rfl rfl ?_
        exact wq_iret rfl (by decide) rfl (wkOI h hT (by decide))
    · replace h := od_pos h h8
      refine wq_bipush rfl rfl ?_
      exact wq_iret rfl (by decide) rfl (wkOI h hT (by decide))
  · replace h := od_pos h h4
    refine wq_bipush rfl rfl ?_
    exact wq_iret rfl (by decide) rfl (wkOI h hT (by decide))
def dk_200_39 (n : Nat) (F : wq_F) (v3 : Nat) : Option (Nat × wq_F) :=
  od_let (ev_oCmpL (v3 - 18446744073709551616) (18446744073715936868 - 18446744073709551616)) fun y1 =>
  if y1 = 0 then
    some (1, F)
  else
    od_let (ev_oCmpL (v3 - 18446744073709551616) (18446744496535593323 - 18446744073709551616)) fun y5 =>
    if y5 = 0 then
      some (2, F)
    else
      od_let (ev_oCmpL (v3 - 18446744073709551616) (18446744073709577327 - 18446744073709551616)) fun y9 =>
      if y9 = 0 then
        some (3, F)
      else
        od_let (ev_oCmpL (v3 - 18446744073709551616) (18446744075411157861 - 18446744073709551616)) fun y13 =>
        if y13 = 0 then
          some (4, F)
        else
          od_let (ev_oCmpL (v3 - 18446744073709551616) (18446855590176450918 - 18446744073709551616)) fun y17 =>
          if y17 = 0 then
            some (5, F)
          else
            od_let (ev_oCmpL (v3 - 18446744073709551616) (18446744073716199012 - 18446744073709551616)) fun y21 =>
            if y21 = 0 then
              some (6, F)
            else
              od_let (ev_oCmpL (v3 - 18446744073709551616) (18446744513430713189 - 18446744073709551616)) fun y25 =>
              if y25 = 0 then
                some (7, F)
              else
                od_let (ev_oCmpL (v3 - 18446744073709551616) (18446744073716264818 - 18446744073709551616)) fun y29 =>
                if y29 = 0 then
                  some (8, F)
                else
                  od_let (ev_oCmpL (v3 - 18446744073709551616) (25829672611287232366 - 18446744073709551616)) fun y33 =>
                  if y33 = 0 then
                    some (9, F)
                  else
                    od_let (ev_oCmpL (v3 - 18446744073709551616) (18446744073709578598 - 18446744073709551616)) fun y37 =>
                    if y37 = 0 then
                      some (10, F)
                    else
                      od_let (ev_oCmpL (v3 - 18446744073709551616) (18446744073709578606 - 18446744073709551616)) fun y41 =>
                      if y41 = 0 then
                        some (11, F)
                      else
                        (dk_201 F v3).bind fun y45 =>
                        some (y45.1, y45.2)
theorem dk_200_39T {d n : Nat} : ∀ ⦃u1 : Nat⦄ ⦃u2 : Nat⦄ ⦃u5 : Nat⦄ ⦃F : wq_F⦄ (hT : wm_T F) ⦃v3 : Nat⦄ (hv3 : ev_isL v3 = true) (hu1 : ev_isL u1 = false) (hu2 : ev_isL u2 = false) (hu5 : ev_isL u5 = false) ⦃x : Nat × wq_F⦄ (h : dk_200_39 n F v3 = some x), wq (wq_cf (d + 1)) (ev_un al_mX12_wordAt.2.2.2.2) (some .int) 39 [36893488147419103232, u1, u2, v3, 73786976294838206464, u5] [] wm_sh F 0 0 (wkI wm_T wm_sh x) := by
  intro u1 u2 u5 F hT v3 hv3 hu1 hu2 hu5 x h
  unfold dk_200_39 at h
  refine wq_lload_n rfl rfl hv3 ?_
  refine wq_ldc2 rfl (by decide) ?_
  refine wq_lcmp rfl hv3 rfl ?_
  obtain ⟨y1, e2, h⟩ := od_letE h
  refine wq_top e2.symm ?_
  have p3 : y1 < 4294967296 := wd_lt e2 (wq_oCmp_lt _ _)
  refine wq_if_ne rfl rfl p3 (fun h4 => ?_) (fun h4 => ?_)
  · replace h := od_neg h h4
    refine wq_lload_n rfl rfl hv3 ?_
    refine wq_ldc2 rfl (by decide) ?_
    refine wq_lcmp rfl hv3 rfl ?_
    obtain ⟨y5, e6, h⟩ := od_letE h
    refine wq_top e6.symm ?_
    have p7 : y5 < 4294967296 := wd_lt e6 (wq_oCmp_lt _ _)
    refine wq_if_ne rfl rfl p7 (fun h8 => ?_) (fun h8 => ?_)
    · replace h := od_neg h h8
      refine wq_lload_n rfl rfl hv3 ?_
      refine wq_ldc2 rfl (by decide) ?_
      refine wq_lcmp rfl hv3 rfl ?_
      obtain ⟨y9, e10, h⟩ := od_letE h
      refine wq_top e10.symm ?_
      have p11 : y9 < 4294967296 := wd_lt e10 (wq_oCmp_lt _ _)
      refine wq_if_ne rfl rfl p11 (fun h12 => ?_) (fun h12 => ?_)
      · replace h := od_neg h h12
        refine wq_lload_n rfl rfl hv3 ?_
        refine wq_ldc2 rfl (by decide) ?_
        refine wq_lcmp rfl hv3 rfl ?_
        obtain ⟨y13, e14, h⟩ := od_letE h
        refine wq_top e14.symm ?_
        have p15 : y13 < 4294967296 := wd_lt e14 (wq_oCmp_lt _ _)
        refine wq_if_ne rfl rfl p15 (fun h16 => ?_) (fun h16 => ?_)
        · replace h := od_neg h h16
          refine wq_lload_n rfl rfl hv3 ?_
          refine wq_ldc2 rfl (by decide) ?_
          refine wq_lcmp rfl hv3 rfl ?_
          obtain ⟨y17, e18, h⟩ := od_letE h
          refine wq_top e18.symm ?_
          have p19 : y17 < 4294967296 := wd_lt e18 (wq_oCmp_lt _ _)
          refine wq_if_ne rfl rfl p19 (fun h20 => ?_) (fun h20 => ?_)
          · replace h := od_neg h h20
            refine wq_lload_n rfl rfl hv3 ?_
            refine wq_ldc2 rfl (by decide) ?_
            refine wq_lcmp rfl hv3 rfl ?_
            obtain ⟨y21, e22, h⟩ := od_letE h
            refine wq_top e22.symm ?_
            have p23 : y21 < 4294967296 := wd_lt e22 (wq_oCmp_lt _ _)
            refine wq_if_ne rfl rfl p23 (fun h24 => ?_) (fun h24 => ?_)
            · replace h := od_neg h h24
              refine wq_lload_n rfl rfl hv3 ?_
              refine wq_ldc2 rfl (by decide) ?_
              refine wq_lcmp rfl hv3 rfl ?_
              obtain ⟨y25, e26, h⟩ := od_letE h
              refine wq_top e26.symm ?_
              have p27 : y25 < 4294967296 := wd_lt e26 (wq_oCmp_lt _ _)
              refine wq_if_ne rfl rfl p27 (fun h28 => ?_) (fun h28 => ?_)
              · replace h := od_neg h h28
                refine wq_lload_n rfl rfl hv3 ?_
                refine wq_ldc2 rfl (by decide) ?_
                refine wq_lcmp rfl hv3 rfl ?_
                obtain ⟨y29, e30, h⟩ := od_letE h
                refine wq_top e30.symm ?_
                have p31 : y29 < 4294967296 := wd_lt e30 (wq_oCmp_lt _ _)
                refine wq_if_ne rfl rfl p31 (fun h32 => ?_) (fun h32 => ?_)
                · replace h := od_neg h h32
                  refine wq_lload_n rfl rfl hv3 ?_
                  refine wq_ldc2 rfl (by decide) ?_
                  refine wq_lcmp rfl hv3 rfl ?_
                  obtain ⟨y33, e34, h⟩ := od_letE h
                  refine wq_top e34.symm ?_
                  have p35 : y33 < 4294967296 := wd_lt e34 (wq_oCmp_lt _ _)
                  refine wq_if_ne rfl rfl p35 (fun h36 => ?_) (fun h36 => ?_)
                  · replace h := od_neg h h36
                    refine wq_lload_n rfl rfl hv3 ?_
                    refine wq_ldc2 rfl (by decide) ?_
                    refine wq_lcmp rfl hv3 rfl ?_
                    obtain ⟨y37, e38, h⟩ := od_letE h
                    refine wq_top e38.symm ?_
                    have p39 : y37 < 4294967296 := wd_lt e38 (wq_oCmp_lt _ _)
                    refine wq_if_ne rfl rfl p39 (fun h40 => ?_) (fun h40 => ?_)
                    · replace h := od_neg h h40
                      refine wq_lload_n rfl rfl hv3 ?_
                      refine wq_ldc2 rfl (by decide) ?_
                      refine wq_lcmp rfl hv3 rfl ?_
                      obtain ⟨y41, e42, h⟩ := od_letE h
                      refine wq_top e42.symm ?_
                      have p43 : y41 < 4294967296 := wd_lt e42 (wq_oCmp_lt _ _)
                      refine wq_if_ne rfl rfl p43 (fun h44 => ?_) (fun h44 => ?_)
                      · replace h := od_neg h h44
                        refine wq_lload_n rfl rfl hv3 ?_
                        obtain ⟨y45, e46, h⟩ := od_bindE h
                        refine wd_statI (y := y45) (as := [v3]) rfl (by decide) (Nat.le_of_ble_eq_true rfl) rfl (Nat.le_of_ble_eq_true rfl) rfl (dkT_201 hT hv3 e46) (fun p47 T48 => ?_)
                        exact wq_iret rfl p47 rfl (wkOI h T48 p47)
                      · replace h := od_pos h h44
                        refine wq_bipush rfl rfl ?_
                        exact wq_iret rfl (by decide) rfl (wkOI h hT (by decide))
                    · replace h := od_pos h h40
                      refine wq_bipush rfl rfl ?_
                      exact wq_iret rfl (by decide) rfl (wkOI h hT (by decide))
                  · replace h := od_pos h h36
                    refine wq_bipush rfl rfl ?_
                    exact wq_iret rfl (by decide) rfl (wkOI h hT (by decide))
                · replace h := od_pos h h32
                  refine wq_bipush rfl rfl ?_
                  exact wq_iret rfl (by decide) rfl (wkOI h hT (by decide))
              · replace h := od_pos h h28
                refine wq_bipush rfl rfl ?_
                exact wq_iret rfl (by decide) rfl (wkOI h hT (by decide))
            · replace h := od_pos h h24
              refine wq_bipush rfl rfl ?_
              exact wq_iret rfl (by decide) rfl (wkOI h hT (by decide))
          · replace h := od_pos h h20
            refine wq_iconst rfl rfl ?_
            exact wq_iret rfl (by decide) rfl (wkOI h hT (by decide))
        · replace h := od_pos h h16
          refine wq_iconst rfl rfl ?_
          exact wq_iret rfl (by decide) rfl (wkOI h hT (by decide))
      · replace h := od_pos h h12
        refine wq_iconst rfl rfl ?_
        exact wq_iret rfl (by decide) rfl (wkOI h hT (by decide))
    · replace h := od_pos h h8
      refine wq_iconst rfl rfl ?_
      exact wq_iret rfl (by decide) rfl (wkOI h hT (by decide))
  · replace h := od_pos h h4
    refine wq_iconst rfl rfl ?_
    exact wq_iret rfl (wm_zlt (by decide)) rfl (wkOI h hT (wm_zlt (by decide)))
def dk_200_5b (n : Nat) (r5 : wq_F → Nat → Nat → Nat → Nat → Option (Nat × wq_F)) (F : wq_F) (v1 : Nat) (v2 : Nat) (v3 : Nat) (v5 : Nat) : Option (Nat × wq_F) :=
  if ev_s v5 < ev_s v2 then
    if ev_s 8 < ev_s v2 then
      dk_200_39 n F v3
    else
      od_g ((v1 + v5) % 4294967296 < 6000) <|
      od_let (ev_oI2l (F 1 ((v1 + v5) % 4294967296))) fun y4 =>
      od_let ((v5 + 1) % 4294967296) fun y7 =>
      r5 F v1 v2 (ev_oOrL (ev_oShlL v3 8) y4) y7
  else
    dk_200_39 n F v3
theorem dk_200_5bT {d n : Nat} {r5 : wq_F → Nat → Nat → Nat → Nat → Option (Nat × wq_F)} (hr5 : ∀ ⦃F : wq_F⦄ (hT : wm_T F) ⦃v1 : Nat⦄ (hv1 : v1 < 4294967296) ⦃v2 : Nat⦄ (hv2 : v2 < 4294967296) ⦃v3 : Nat⦄ (hv3 : ev_isL v3 = true) ⦃v5 : Nat⦄ (hv5 : v5 < 4294967296) ⦃x : Nat × wq_F⦄ (h : r5 F v1 v2 v3 v5 = some x), wq (wq_cf (d + 1)) (ev_un al_mX12_wordAt.2.2.2.2) (some .int) 5 [36893488147419103232, v1, v2, v3, 73786976294838206464, v5] [] wm_sh F 0 0 (wkI wm_T wm_sh x)) : ∀ ⦃F : wq_F⦄ (hT : wm_T F) ⦃v1 : Nat⦄ (hv1 : v1 < 4294967296) ⦃v2 : Nat⦄ (hv2 : v2 < 4294967296) ⦃v3 : Nat⦄ (hv3 : ev_isL v3 = true) ⦃v5 : Nat⦄ (hv5 : v5 < 4294967296) ⦃x : Nat × wq_F⦄ (h : dk_200_5b n r5 F v1 v2 v3 v5 = some x), wq (wq_cf (d + 1)) (ev_un al_mX12_wordAt.2.2.2.2) (some .int) 5 [36893488147419103232, v1, v2, v3, 73786976294838206464, v5] [] wm_sh F 0 0 (wkI wm_T wm_sh x) := by
  intro F hT v1 hv1 v2 hv2 v3 hv3 v5 hv5 x h
  unfold dk_200_5b at h
  refine wq_iload rfl rfl hv5 ?_
  refine wq_iload_n rfl rfl hv2 ?_
  refine wq_ic_ge rfl rfl hv5 hv2 (fun h1 => ?_) (fun h1 => ?_)
  · replace h := od_neg h (Nat.not_lt.mpr h1)
    exact dk_200_39T hT hv3 (wq_notL hv1) (wq_notL hv2) (wq_notL hv5) h
  · replace h := od_pos h h1
    refine wq_iload_n rfl rfl hv2 ?_
    refine wq_bipush rfl rfl ?_
    refine wq_ic_gt rfl rfl hv2 (by decide) (fun h2 => ?_) (fun h2 => ?_)
    · replace h := od_pos h h2
      exact dk_200_39T hT hv3 (wq_notL hv1) (wq_notL hv2) (wq_notL hv5) h
    · replace h := od_neg h (Nat.not_lt.mpr h2)
      refine wq_lload_n rfl rfl hv3 ?_
      refine wq_bipush rfl rfl ?_
      refine wq_lshl rfl hv3 (by decide) ?_
      refine wq_aload_n rfl rfl rfl ?_
      refine wm_getR (v := 36893488147419103233) rfl (by decide) (hT.r 1 0 rfl) ?_
      refine wq_iload_n rfl rfl hv1 ?_
      refine wq_iload rfl rfl hv5 ?_
      refine wq_iaddZ rfl hv1 hv5 (z := (v1 + v5) % 4294967296) rfl ?_
      obtain ⟨g3, h⟩ := od_gE h
      refine wq_iaload (q := 1) (n := 6000) rfl rfl (by decide) g3 (by decide) ?_
      refine wq_i2l rfl (hT.ai (k := 1) rfl g3) ?_
      obtain ⟨y4, e5, h⟩ := od_letE h
      refine wq_top e5.symm ?_
      have p6 : ev_isL y4 = true := wd_ge e5 (wq_i2l_L (hT.ai (k := 1) rfl g3))
      refine wq_lor rfl (wq_L_lshl hv3 (by decide)) p6 ?_
      refine wq_lstore_n rfl (wq_L_lor (wq_L_lshl hv3 (by decide)) p6) (Nat.le_of_ble_eq_true rfl) (Or.inr ⟨_, rfl, (wq_notL hv2)⟩) (L' := [36893488147419103232, v1, v2, ev_oOrL (ev_oShlL v3 8) y4, 73786976294838206464, v5]) rfl ?_
      obtain ⟨y7, e8, h⟩ := od_letE h
      have p9 : y7 < 4294967296 := wd_lt e8 (Nat.mod_lt _ (by decide))
      refine wq_iincZ rfl rfl hv5 (Or.inr ⟨_, rfl, rfl⟩) rfl (z := y7) e8.symm (L' := [36893488147419103232, v1, v2, ev_oOrL (ev_oShlL v3 8) y4, 73786976294838206464, y7]) rfl ?_
      refine wq_goto rfl rfl ?_
      exact hr5 hT hv1 hv2 (wq_L_lor (wq_L_lshl hv3 (by decide)) p6) p9 h
def dk_200_5 (n : Nat) : Nat → wq_F → Nat → Nat → Nat → Nat → Option (Nat × wq_F)
  | 0 => fun _ _ _ _ _ => none
  | g + 1 => dk_200_5b n (dk_200_5 n g)
theorem dk_200_5T {d n : Nat} : ∀ g : Nat, ∀ ⦃F : wq_F⦄ (hT : wm_T F) ⦃v1 : Nat⦄ (hv1 : v1 < 4294967296) ⦃v2 : Nat⦄ (hv2 : v2 < 4294967296) ⦃v3 : Nat⦄ (hv3 : ev_isL v3 = true) ⦃v5 : Nat⦄ (hv5 : v5 < 4294967296) ⦃x : Nat × wq_F⦄ (h : dk_200_5 n g F v1 v2 v3 v5 = some x), wq (wq_cf (d + 1)) (ev_un al_mX12_wordAt.2.2.2.2) (some .int) 5 [36893488147419103232, v1, v2, v3, 73786976294838206464, v5] [] wm_sh F 0 0 (wkI wm_T wm_sh x)
  | 0 => by
    intro F hT v1 hv1 v2 hv2 v3 hv3 v5 hv5 x h
    cases h
  | g + 1 => dk_200_5bT (dk_200_5T g)
/-- X12_wordAt -/
def dk_200 (n : Nat) (F : wq_F) (a0 : Nat) (a1 : Nat) : Option (Nat × wq_F) :=
  dk_200_5 n n F a0 a1 18446744073709551616 0
theorem dkT_200 {d n : Nat} {F : wq_F} (hT : wm_T F) {a0 : Nat} (ha0 : a0 < 4294967296) {a1 : Nat} (ha1 : a1 < 4294967296) {x : Nat × wq_F} (h : dk_200 n F a0 a1 = some x) : mq (d + 1 + 1) 200 [36893488147419103232, a0, a1] wm_sh F (wkI wm_T wm_sh x) := by
  have e : ev_ent [36893488147419103232, a0, a1] = [36893488147419103232, a0, a1] := by
    show 36893488147419103232 :: ev_ent [a0, a1] = _
    rw [wm_entI ha0, wm_entI ha1]
    rfl
  refine mq_of (maxL := 6) (rt := (some .int)) (code := (ev_un al_mX12_wordAt.2.2.2.2)) (L := [36893488147419103232, a0, a1, 73786976294838206464, 73786976294838206464, 73786976294838206464]) rfl (by rw [e]; exact Nat.le_of_ble_eq_true rfl) (by rw [e]; rfl) ?_
  unfold dk_200 at h
  refine wq_lconst rfl ?_
  refine wq_lstore_n rfl rfl (Nat.le_of_ble_eq_true rfl) (Or.inr ⟨_, rfl, (wq_notL ha1)⟩) (L' := [36893488147419103232, a0, a1, 18446744073709551616, 73786976294838206464, 73786976294838206464]) rfl ?_
  refine wq_iconst rfl rfl ?_
  refine wq_istore rfl (wm_zlt (by decide)) (Nat.le_of_ble_eq_true rfl) (Or.inr ⟨_, rfl, rfl⟩) (L' := [36893488147419103232, a0, a1, 18446744073709551616, 73786976294838206464, 0]) rfl ?_
  exact dk_200_5T n hT ha0 ha1 rfl (wm_zlt (by decide)) h
def dk_202_94b (n : Nat) (r94 : wq_F → Nat → Nat → Option (Nat × wq_F)) (F : wq_F) (v2 : Nat) (v4 : Nat) : Option (Nat × wq_F) :=
  if ev_s v4 < ev_s v2 then
    od_g (v4 < 6000) <|
    od_g (F 0 20 < 4200) <|
    od_up F 8 (F 0 20) ((ev_b8 (ev_b8 (F 1 v4)))) fun F11 =>
    od_let (((F11 0 20) + 1) % 4294967296) fun y14 =>
    od_up F11 0 20 y14 fun F17 =>
    od_let ((v4 + 1) % 4294967296) fun y20 =>
    r94 F17 v2 y20
  else
    (dk_22 n F 1).bind fun y2 =>
    od_up y2.2 0 68 (ev_oI2l y2.1) fun F6 =>
    some (0, F6)
theorem dk_202_94bT {d n : Nat} {r94 : wq_F → Nat → Nat → Option (Nat × wq_F)} (hr94 : ∀ ⦃u1 : Nat⦄ ⦃u3 : Nat⦄ ⦃F : wq_F⦄ (hT : wm_T F) ⦃v2 : Nat⦄ (hv2 : v2 < 4294967296) ⦃v4 : Nat⦄ (hv4 : v4 < 4294967296) (hu1 : ev_isL u1 = false) (hu3 : ev_isL u3 = false) ⦃x : Nat × wq_F⦄ (h : r94 F v2 v4 = some x), wq (wq_cf (d + 2)) (ev_un al_mX12_readName.2.2.2.2) none 94 [36893488147419103232, u1, v2, u3, v4] [] wm_sh F 0 0 (wkN wm_T wm_sh x)) : ∀ ⦃u1 : Nat⦄ ⦃u3 : Nat⦄ ⦃F : wq_F⦄ (hT : wm_T F) ⦃v2 : Nat⦄ (hv2 : v2 < 4294967296) ⦃v4 : Nat⦄ (hv4 : v4 < 4294967296) (hu1 : ev_isL u1 = false) (hu3 : ev_isL u3 = false) ⦃x : Nat × wq_F⦄ (h : dk_202_94b n r94 F v2 v4 = some x), wq (wq_cf (d + 2)) (ev_un al_mX12_readName.2.2.2.2) none 94 [36893488147419103232, u1, v2, u3, v4] [] wm_sh F 0 0 (wkN wm_T wm_sh x) := by
  intro u1 u3 F hT v2 hv2 v4 hv4 hu1 hu3 x h
  unfold dk_202_94b at h
  refine wq_iload rfl rfl hv4 ?_
  refine wq_iload_n rfl rfl hv2 ?_
  refine wq_ic_ge rfl rfl hv4 hv2 (fun h1 => ?_) (fun h1 => ?_)
  · replace h := od_neg h (Nat.not_lt.mpr h1)
    refine wq_aload_n rfl rfl rfl ?_
    refine wq_aload_n rfl rfl rfl ?_
    refine wq_iconst rfl rfl ?_
    obtain ⟨y2, e3, h⟩ := od_bindE h
    refine wd_virtI (q := 0) (y := y2) (as := [36893488147419103232, 1]) rfl rfl rfl (by decide) (Nat.le_of_ble_eq_true rfl) (Nat.le_of_ble_eq_true rfl) rfl (Nat.le_of_ble_eq_true rfl) rfl (dkT_22 hT (wm_zlt (by decide)) e3) (fun p4 T5 => ?_)
    refine wq_i2l rfl p4 ?_
    obtain ⟨F6, e7, h⟩ := od_upE h
    refine wmE_put rfl (by decide) (wq_i2l_L p4) e7 ?_
    have T8 : wm_T F6 := wd_T e7 (T5.uf (f := 68) (c := 10) (v := ev_oI2l y2.1) rfl (show ev_isL (ev_oI2l y2.1) = true from (wq_i2l_L p4)))
    exact wq_ret rfl (wkON h T8)
  · replace h := od_pos h h1
    refine wq_aload_n rfl rfl rfl ?_
    refine wm_getR (v := 36893488147419103240) rfl (by decide) (hT.r 19 7 rfl) ?_
    refine wq_aload_n rfl rfl rfl ?_
    refine wm_getI rfl (by decide) ?_
    refine wq_aload_n rfl rfl rfl ?_
    refine wm_getR (v := 36893488147419103233) rfl (by decide) (hT.r 1 0 rfl) ?_
    refine wq_iload rfl rfl hv4 ?_
    obtain ⟨g9, h⟩ := od_gE h
    refine wq_iaload (q := 1) (n := 6000) rfl rfl (by decide) g9 (by decide) ?_
    refine wq_i2b rfl (hT.ai (k := 1) rfl g9) ?_
    obtain ⟨g10, h⟩ := od_gE h
    obtain ⟨F11, e12, h⟩ := od_upE h
    refine wd_bastore (q := 8) (n := 4200) rfl rfl (by decide) g10 (by decide) (ev_b8_lt _) e12 ?_
    have T13 : wm_T F11 := wd_T e12 (hT.ua (k := 8) (kd := 1001) (n := 4200) (i := F 0 20) (v := (ev_b8 (ev_b8 (F 1 v4)))) rfl (by decide) g10 ⟨ev_b8_lt _, wm_b8b8 _⟩)
    refine wq_aload_n rfl rfl rfl ?_
    refine wq_dup rfl rfl ?_
    refine wm_getI rfl (by decide) ?_
    refine wq_iconst rfl rfl ?_
    refine wq_iaddZ rfl (T13.i 20 rfl) (wm_zlt (by decide)) (z := ((F11 0 20) + 1) % 4294967296) rfl ?_
    obtain ⟨y14, e15, h⟩ := od_letE h
    refine wq_top e15.symm ?_
    have p16 : y14 < 4294967296 := wd_lt e15 (Nat.mod_lt _ (by decide))
    obtain ⟨F17, e18, h⟩ := od_upE h
    refine wmE_put rfl (by decide) (wq_I p16) e18 ?_
    have T19 : wm_T F17 := wd_T e18 (T13.uf (f := 20) (c := 0) (v := y14) rfl (show y14 < 4294967296 from p16))
    obtain ⟨y20, e21, h⟩ := od_letE h
    have p22 : y20 < 4294967296 := wd_lt e21 (Nat.mod_lt _ (by decide))
    refine wq_iincZ rfl rfl hv4 (Or.inr ⟨_, rfl, hu3⟩) rfl (z := y20) e21.symm (L' := [36893488147419103232, u1, v2, u3, y20]) rfl ?_
    refine wq_goto rfl rfl ?_
    exact hr94 T19 hv2 p22 hu1 hu3 h
def dk_202_94 (n : Nat) : Nat → wq_F → Nat → Nat → Option (Nat × wq_F)
  | 0 => fun _ _ _ => none
  | g + 1 => dk_202_94b n (dk_202_94 n g)
theorem dk_202_94T {d n : Nat} : ∀ g : Nat, ∀ ⦃u1 : Nat⦄ ⦃u3 : Nat⦄ ⦃F : wq_F⦄ (hT : wm_T F) ⦃v2 : Nat⦄ (hv2 : v2 < 4294967296) ⦃v4 : Nat⦄ (hv4 : v4 < 4294967296) (hu1 : ev_isL u1 = false) (hu3 : ev_isL u3 = false) ⦃x : Nat × wq_F⦄ (h : dk_202_94 n g F v2 v4 = some x), wq (wq_cf (d + 2)) (ev_un al_mX12_readName.2.2.2.2) none 94 [36893488147419103232, u1, v2, u3, v4] [] wm_sh F 0 0 (wkN wm_T wm_sh x)
  | 0 => by
    intro u1 u3 F hT v2 hv2 v4 hv4 hu1 hu3 x h
    cases h
  | g + 1 => dk_202_94bT (dk_202_94T g)
def dk_202_75 (n : Nat) (F : wq_F) (v1 : Nat) (v2 : Nat) (s0 : Nat) : Option (Nat × wq_F) :=
  od_up F 0 67 s0 fun F1 =>
  if (F1 0 67) = 1 then
    od_up F1 0 20 0 fun F5 =>
    dk_202_94 n n F5 v2 v1
  else
    some (0, F1)
theorem dk_202_75T {d n : Nat} : ∀ ⦃u3 : Nat⦄ ⦃F : wq_F⦄ (hT : wm_T F) ⦃v1 : Nat⦄ (hv1 : v1 < 4294967296) ⦃v2 : Nat⦄ (hv2 : v2 < 4294967296) ⦃s0 : Nat⦄ (hs0 : s0 < 4294967296) (hu3 : ev_isL u3 = false) ⦃x : Nat × wq_F⦄ (h : dk_202_75 n F v1 v2 s0 = some x), wq (wq_cf (d + 2)) (ev_un al_mX12_readName.2.2.2.2) none 75 [36893488147419103232, v1, v2, u3, 73786976294838206464] [s0, 36893488147419103232] wm_sh F 0 0 (wkN wm_T wm_sh x) := by
  intro u3 F hT v1 hv1 v2 hv2 s0 hs0 hu3 x h
  unfold dk_202_75 at h
  obtain ⟨F1, e2, h⟩ := od_upE h
  refine wmE_put rfl (by decide) (wq_I hs0) e2 ?_
  have T3 : wm_T F1 := wd_T e2 (hT.uf (f := 67) (c := 0) (v := s0) rfl (show s0 < 4294967296 from hs0))
  refine wq_aload_n rfl rfl rfl ?_
  refine wm_getI rfl (by decide) ?_
  refine wq_iconst rfl rfl ?_
  refine wq_ic_ne rfl rfl (T3.i 67 rfl) (wm_zlt (by decide)) (fun h4 => ?_) (fun h4 => ?_)
  · replace h := od_neg h h4
    exact wq_ret rfl (wkON h T3)
  · replace h := od_pos h h4
    refine wq_aload_n rfl rfl rfl ?_
    refine wq_iconst rfl rfl ?_
    obtain ⟨F5, e6, h⟩ := od_upE h
    refine wmE_put rfl (by decide) (wq_I (wm_zlt (by decide))) e6 ?_
    have T7 : wm_T F5 := wd_T e6 (T3.uf (f := 20) (c := 0) (v := 0) rfl (show 0 < 4294967296 from (wm_zlt (by decide))))
    refine wq_iload_n rfl rfl hv1 ?_
    refine wq_istore rfl hv1 (Nat.le_of_ble_eq_true rfl) (Or.inr ⟨_, rfl, hu3⟩) (L' := [36893488147419103232, v1, v2, u3, v1]) rfl ?_
    exact dk_202_94T n T7 hv2 hv1 (wq_notL hv1) hu3 h
def dk_202_2b (n : Nat) (r2 : wq_F → Nat → Nat → Option (Nat × wq_F)) (F : wq_F) (v1 : Nat) (v2 : Nat) : Option (Nat × wq_F) :=
  (dk_28 F v2).bind fun y1 =>
  (dk_197 y1.2 y1.1).bind fun y5 =>
  if y5.1 = 0 then
    (dk_28 y5.2 v2).bind fun y13 =>
    (dk_198 y13.2 y13.1).bind fun y17 =>
    if y17.1 = 0 then
      od_up y17.2 0 69 v2 fun F22 =>
      od_let ((v2 + (4294967296 - v1)) % 4294967296) fun y25 =>
      (dk_200 n F22 v1 y25).bind fun y28 =>
      if 0 < y28.1 ∧ y28.1 < 2147483648 then
        od_up y28.2 0 67 4 fun F37 =>
        od_up F37 0 68 (ev_oI2l y28.1) fun F40 =>
        some (0, F40)
      else
        od_let ((v2 + (4294967296 - v1)) % 4294967296) fun y33 =>
        if ev_s 30 < ev_s y33 then
          dk_202_75 n y28.2 v1 v2 7
        else
          dk_202_75 n y28.2 v1 v2 1
    else
      od_let ((v2 + 1) % 4294967296) fun y43 =>
      r2 y17.2 v1 y43
  else
    od_let ((v2 + 1) % 4294967296) fun y10 =>
    r2 y5.2 v1 y10
theorem dk_202_2bT {d n : Nat} {r2 : wq_F → Nat → Nat → Option (Nat × wq_F)} (hr2 : ∀ ⦃F : wq_F⦄ (hT : wm_T F) ⦃v1 : Nat⦄ (hv1 : v1 < 4294967296) ⦃v2 : Nat⦄ (hv2 : v2 < 4294967296) ⦃x : Nat × wq_F⦄ (h : r2 F v1 v2 = some x), wq (wq_cf (d + 2)) (ev_un al_mX12_readName.2.2.2.2) none 2 [36893488147419103232, v1, v2, 73786976294838206464, 73786976294838206464] [] wm_sh F 0 0 (wkN wm_T wm_sh x)) : ∀ ⦃F : wq_F⦄ (hT : wm_T F) ⦃v1 : Nat⦄ (hv1 : v1 < 4294967296) ⦃v2 : Nat⦄ (hv2 : v2 < 4294967296) ⦃x : Nat × wq_F⦄ (h : dk_202_2b n r2 F v1 v2 = some x), wq (wq_cf (d + 2)) (ev_un al_mX12_readName.2.2.2.2) none 2 [36893488147419103232, v1, v2, 73786976294838206464, 73786976294838206464] [] wm_sh F 0 0 (wkN wm_T wm_sh x) := by
  intro F hT v1 hv1 v2 hv2 x h
  unfold dk_202_2b at h
  refine wq_aload_n rfl rfl rfl ?_
  refine wq_iload_n rfl rfl hv2 ?_
  obtain ⟨y1, e2, h⟩ := od_bindE h
  refine wd_virtI (q := 0) (y := y1) (as := [36893488147419103232, v2]) rfl rfl rfl (by decide) (Nat.le_of_ble_eq_true rfl) (Nat.le_of_ble_eq_true rfl) rfl (Nat.le_of_ble_eq_true rfl) rfl (dkT_28 hT hv2 e2) (fun p3 T4 => ?_)
  obtain ⟨y5, e6, h⟩ := od_bindE h
  refine wd_statZ (y := y5) (as := [y1.1]) rfl (by decide) (Nat.le_of_ble_eq_true rfl) rfl (Nat.le_of_ble_eq_true rfl) rfl (dkT_197 T4 p3 e6) (fun p7 T8 => ?_)
  refine wq_if_ne rfl rfl (wm_zlt p7) (fun h9 => ?_) (fun h9 => ?_)
  · replace h := od_neg h h9
    obtain ⟨y10, e11, h⟩ := od_letE h
    have p12 : y10 < 4294967296 := wd_lt e11 (Nat.mod_lt _ (by decide))
    refine wq_iincZ rfl rfl hv2 (Or.inr ⟨_, rfl, (wq_notL hv1)⟩) rfl (z := y10) e11.symm (L' := [36893488147419103232, v1, y10, 73786976294838206464, 73786976294838206464]) rfl ?_
    refine wq_goto rfl rfl ?_
    exact hr2 T8 hv1 p12 h
  · replace h := od_pos h h9
    refine wq_aload_n rfl rfl rfl ?_
    refine wq_iload_n rfl rfl hv2 ?_
    obtain ⟨y13, e14, h⟩ := od_bindE h
    refine wd_virtI (q := 0) (y := y13) (as := [36893488147419103232, v2]) rfl rfl rfl (by decide) (Nat.le_of_ble_eq_true rfl) (Nat.le_of_ble_eq_true rfl) rfl (Nat.le_of_ble_eq_true rfl) rfl (dkT_28 T8 hv2 e14) (fun p15 T16 => ?_)
    obtain ⟨y17, e18, h⟩ := od_bindE h
    refine wd_statZ (y := y17) (as := [y13.1]) rfl (by decide) (Nat.le_of_ble_eq_true rfl) rfl (Nat.le_of_ble_eq_true rfl) rfl (dkT_198 T16 p15 e18) (fun p19 T20 => ?_)
    refine wq_if_eq rfl rfl (wm_zlt p19) (fun h21 => ?_) (fun h21 => ?_)
    · replace h := od_pos h h21
      refine wq_aload_n rfl rfl rfl ?_
      refine wq_iload_n rfl rfl hv2 ?_
      obtain ⟨F22, e23, h⟩ := od_upE h
      refine wmE_put rfl (by decide) (wq_I hv2) e23 ?_
      have T24 : wm_T F22 := wd_T e23 (T20.uf (f := 69) (c := 0) (v := v2) rfl (show v2 < 4294967296 from hv2))
      refine wq_aload_n rfl rfl rfl ?_
      refine wq_iload_n rfl rfl hv1 ?_
      refine wq_iload_n rfl rfl hv2 ?_
      refine wq_iload_n rfl rfl hv1 ?_
      refine wq_isubZ rfl hv2 hv1 (z := (v2 + (4294967296 - v1)) % 4294967296) rfl ?_
      obtain ⟨y25, e26, h⟩ := od_letE h
      refine wq_top e26.symm ?_
      have p27 : y25 < 4294967296 := wd_lt e26 (Nat.mod_lt _ (by decide))
      obtain ⟨y28, e29, h⟩ := od_bindE h
      refine wd_virtI (q := 0) (y := y28) (as := [36893488147419103232, v1, y25]) rfl rfl rfl (by decide) (Nat.le_of_ble_eq_true rfl) (Nat.le_of_ble_eq_true rfl) rfl (Nat.le_of_ble_eq_true rfl) rfl (dkT_200 T24 hv1 p27 e29) (fun p30 T31 => ?_)
      refine wq_istore_n rfl p30 (Nat.le_of_ble_eq_true rfl) (Or.inr ⟨_, rfl, (wq_notL hv2)⟩) (L' := [36893488147419103232, v1, v2, y28.1, 73786976294838206464]) rfl ?_
      refine wq_iload_n rfl rfl p30 ?_
      refine wq_if_le rfl rfl p30 (fun h32 => ?_) (fun h32 => ?_)
      · replace h := od_neg h h32
        refine wq_aload_n rfl rfl rfl ?_
        refine wq_iload_n rfl rfl hv2 ?_
        refine wq_iload_n rfl rfl hv1 ?_
        refine wq_isubZ rfl hv2 hv1 (z := (v2 + (4294967296 - v1)) % 4294967296) rfl ?_
        obtain ⟨y33, e34, h⟩ := od_letE h
        refine wq_top e34.symm ?_
        have p35 : y33 < 4294967296 := wd_lt e34 (Nat.mod_lt _ (by decide))
        refine wq_bipush rfl rfl ?_
        refine wq_ic_le rfl rfl p35 (by decide) (fun h36 => ?_) (fun h36 => ?_)
        · replace h := od_neg h (Nat.not_lt.mpr h36)
          refine wq_iconst rfl rfl ?_
          exact dk_202_75T T31 hv1 hv2 (wm_zlt (by decide)) (wq_notL p30) h
        · replace h := od_pos h h36
          refine wq_bipush rfl rfl ?_
          refine wq_goto rfl rfl ?_
          exact dk_202_75T T31 hv1 hv2 (by decide) (wq_notL p30) h
      · replace h := od_pos h h32
        refine wq_aload_n rfl rfl rfl ?_
        refine wq_iconst rfl rfl ?_
        obtain ⟨F37, e38, h⟩ := od_upE h
        refine wmE_put rfl (by decide) (wq_I (by decide)) e38 ?_
        have T39 : wm_T F37 := wd_T e38 (T31.uf (f := 67) (c := 0) (v := 4) rfl (show 4 < 4294967296 from (by decide)))
        refine wq_aload_n rfl rfl rfl ?_
        refine wq_iload_n rfl rfl p30 ?_
        refine wq_i2l rfl p30 ?_
        obtain ⟨F40, e41, h⟩ := od_upE h
        refine wmE_put rfl (by decide) (wq_i2l_L p30) e41 ?_
        have T42 : wm_T F40 := wd_T e41 (T39.uf (f := 68) (c := 10) (v := ev_oI2l y28.1) rfl (show ev_isL (ev_oI2l y28.1) = true from (wq_i2l_L p30)))
        exact wq_ret rfl (wkON h T42)
    · replace h := od_neg h h21
      obtain ⟨y43, e44, h⟩ := od_letE h
      have p45 : y43 < 4294967296 := wd_lt e44 (Nat.mod_lt _ (by decide))
      refine wq_iincZ rfl rfl hv2 (Or.inr ⟨_, rfl, (wq_notL hv1)⟩) rfl (z := y43) e44.symm (L' := [36893488147419103232, v1, y43, 73786976294838206464, 73786976294838206464]) rfl ?_
      refine wq_goto rfl rfl ?_
      exact hr2 T20 hv1 p45 h
def dk_202_2 (n : Nat) : Nat → wq_F → Nat → Nat → Option (Nat × wq_F)
  | 0 => fun _ _ _ => none
  | g + 1 => dk_202_2b n (dk_202_2 n g)
theorem dk_202_2T {d n : Nat} : ∀ g : Nat, ∀ ⦃F : wq_F⦄ (hT : wm_T F) ⦃v1 : Nat⦄ (hv1 : v1 < 4294967296) ⦃v2 : Nat⦄ (hv2 : v2 < 4294967296) ⦃x : Nat × wq_F⦄ (h : dk_202_2 n g F v1 v2 = some x), wq (wq_cf (d + 2)) (ev_un al_mX12_readName.2.2.2.2) none 2 [36893488147419103232, v1, v2, 73786976294838206464, 73786976294838206464] [] wm_sh F 0 0 (wkN wm_T wm_sh x)
  | 0 => by
    intro F hT v1 hv1 v2 hv2 x h
    cases h
  | g + 1 => dk_202_2bT (dk_202_2T g)
/-- X12_readName -/
def dk_202 (n : Nat) (F : wq_F) (a0 : Nat) : Option (Nat × wq_F) :=
  dk_202_2 n n F a0 a0
theorem dkT_202 {d n : Nat} {F : wq_F} (hT : wm_T F) {a0 : Nat} (ha0 : a0 < 4294967296) {x : Nat × wq_F} (h : dk_202 n F a0 = some x) : mq (d + 2 + 1) 202 [36893488147419103232, a0] wm_sh F (wkN wm_T wm_sh x) := by
  have e : ev_ent [36893488147419103232, a0] = [36893488147419103232, a0] := by
    show 36893488147419103232 :: ev_ent [a0] = _
    rw [wm_entI ha0]
    rfl
  refine mq_of (maxL := 5) (rt := none) (code := (ev_un al_mX12_readName.2.2.2.2)) (L := [36893488147419103232, a0, 73786976294838206464, 73786976294838206464, 73786976294838206464]) rfl (by rw [e]; exact Nat.le_of_ble_eq_true rfl) (by rw [e]; rfl) ?_
  unfold dk_202 at h
  refine wq_iload_n rfl rfl ha0 ?_
  refine wq_istore_n rfl ha0 (Nat.le_of_ble_eq_true rfl) (Or.inr ⟨_, rfl, (wq_notL ha0)⟩) (L' := [36893488147419103232, a0, a0, 73786976294838206464, 73786976294838206464]) rfl ?_
  exact dk_202_2T n hT ha0 ha0 h
def dk_204_110 (n : Nat) (F : wq_F) (v3 : Nat) (v4 : Nat) : Option (Nat × wq_F) :=
  if 2147483648 ≤ v3 then
    some (4294967295, F)
  else
    if ev_s 255 < ev_s v3 then
      some (4294967295, F)
    else
      od_g (F 0 20 < 4200) <|
      od_up F 8 (F 0 20) ((ev_b8 (ev_b8 v3))) fun F4 =>
      od_up F4 0 20 (((F4 0 20) + 1) % 4294967296) fun F7 =>
      some (v4, F7)
theorem dk_204_110T {d n : Nat} : ∀ ⦃u1 : Nat⦄ ⦃u2 : Nat⦄ ⦃F : wq_F⦄ (hT : wm_T F) ⦃v3 : Nat⦄ (hv3 : v3 < 4294967296) ⦃v4 : Nat⦄ (hv4 : v4 < 4294967296) (hu1 : ev_isL u1 = false) (hu2 : ev_isL u2 = false) ⦃x : Nat × wq_F⦄ (h : dk_204_110 n F v3 v4 = some x), wq (wq_cf (d + 1)) (ev_un al_mX12_escape.2.2.2.2) (some .int) 110 [36893488147419103232, u1, u2, v3, v4] [] wm_sh F 0 0 (wkI wm_T wm_sh x) := by
  intro u1 u2 F hT v3 hv3 v4 hv4 hu1 hu2 x h
  unfold dk_204_110 at h
  refine wq_iload_n rfl rfl hv3 ?_
  refine wq_if_lt rfl rfl hv3 (fun h1 => ?_) (fun h1 => ?_)
  · replace h := od_pos h h1
    refine wq_iconst rfl rfl ?_
    exact wq_iret rfl (by decide) rfl (wkOI h hT (by decide))
  · replace h := od_neg h (Nat.not_le.mpr h1)
    refine wq_iload_n rfl rfl hv3 ?_
    refine wq_sipush rfl rfl ?_
    refine wq_ic_le rfl rfl hv3 (by decide) (fun h2 => ?_) (fun h2 => ?_)
    · replace h := od_neg h (Nat.not_lt.mpr h2)
      refine wq_aload_n rfl rfl rfl ?_
      refine wm_getR (v := 36893488147419103240) rfl (by decide) (hT.r 19 7 rfl) ?_
      refine wq_aload_n rfl rfl rfl ?_
      refine wm_getI rfl (by decide) ?_
      refine wq_iload_n rfl rfl hv3 ?_
      refine wq_i2b rfl hv3 ?_
      obtain ⟨g3, h⟩ := od_gE h
      obtain ⟨F4, e5, h⟩ := od_upE h
      refine wd_bastore (q := 8) (n := 4200) rfl rfl (by decide) g3 (by decide) (ev_b8_lt _) e5 ?_
      have T6 : wm_T F4 := wd_T e5 (hT.ua (k := 8) (kd := 1001) (n := 4200) (i := F 0 20) (v := (ev_b8 (ev_b8 v3))) rfl (by decide) g3 ⟨ev_b8_lt _, wm_b8b8 _⟩)
      refine wq_aload_n rfl rfl rfl ?_
      refine wq_dup rfl rfl ?_
      refine wm_getI rfl (by decide) ?_
      refine wq_iconst rfl rfl ?_
      refine wq_iaddZ rfl (T6.i 20 rfl) (wm_zlt (by decide)) (z := ((F4 0 20) + 1) % 4294967296) rfl ?_
      obtain ⟨F7, e8, h⟩ := od_upE h
      refine wmE_put rfl (by decide) (wq_I (Nat.mod_lt _ (by decide))) e8 ?_
      have T9 : wm_T F7 := wd_T e8 (T6.uf (f := 20) (c := 0) (v := ((F4 0 20) + 1) % 4294967296) rfl (show ((F4 0 20) + 1) % 4294967296 < 4294967296 from (Nat.mod_lt _ (by decide))))
      refine wq_iload rfl rfl hv4 ?_
      exact wq_iret rfl hv4 rfl (wkOI h T9 hv4)
    · replace h := od_pos h h2
      refine wq_iconst rfl rfl ?_
      exact wq_iret rfl (by decide) rfl (wkOI h hT (by decide))
def dk_204_69b (n : Nat) (r69 : wq_F → Nat → Nat → Nat → Option (Nat × wq_F)) (F : wq_F) (v1 : Nat) (v3 : Nat) (v4 : Nat) : Option (Nat × wq_F) :=
  if ev_s v4 < ev_s ((v1 + 3) % 4294967296) then
    (dk_28 F v4).bind fun y2 =>
    (dk_198 y2.2 y2.1).bind fun y6 =>
    if y6.1 = 0 then
      dk_204_110 n y6.2 v3 v4
    else
      (dk_28 y6.2 v4).bind fun y11 =>
      od_let (((ev_oMul 10 v3) + y11.1) % 4294967296) fun y15 =>
      od_let ((y15 + (4294967296 - 48)) % 4294967296) fun y18 =>
      od_let ((v4 + 1) % 4294967296) fun y21 =>
      r69 y11.2 v1 y18 y21
  else
    dk_204_110 n F v3 v4
theorem dk_204_69bT {d n : Nat} {r69 : wq_F → Nat → Nat → Nat → Option (Nat × wq_F)} (hr69 : ∀ ⦃u2 : Nat⦄ ⦃F : wq_F⦄ (hT : wm_T F) ⦃v1 : Nat⦄ (hv1 : v1 < 4294967296) ⦃v3 : Nat⦄ (hv3 : v3 < 4294967296) ⦃v4 : Nat⦄ (hv4 : v4 < 4294967296) (hu2 : ev_isL u2 = false) ⦃x : Nat × wq_F⦄ (h : r69 F v1 v3 v4 = some x), wq (wq_cf (d + 1)) (ev_un al_mX12_escape.2.2.2.2) (some .int) 69 [36893488147419103232, v1, u2, v3, v4] [] wm_sh F 0 0 (wkI wm_T wm_sh x)) : ∀ ⦃u2 : Nat⦄ ⦃F : wq_F⦄ (hT : wm_T F) ⦃v1 : Nat⦄ (hv1 : v1 < 4294967296) ⦃v3 : Nat⦄ (hv3 : v3 < 4294967296) ⦃v4 : Nat⦄ (hv4 : v4 < 4294967296) (hu2 : ev_isL u2 = false) ⦃x : Nat × wq_F⦄ (h : dk_204_69b n r69 F v1 v3 v4 = some x), wq (wq_cf (d + 1)) (ev_un al_mX12_escape.2.2.2.2) (some .int) 69 [36893488147419103232, v1, u2, v3, v4] [] wm_sh F 0 0 (wkI wm_T wm_sh x) := by
  intro u2 F hT v1 hv1 v3 hv3 v4 hv4 hu2 x h
  unfold dk_204_69b at h
  refine wq_iload rfl rfl hv4 ?_
  refine wq_iload_n rfl rfl hv1 ?_
  refine wq_iconst rfl rfl ?_
  refine wq_iaddZ rfl hv1 (by decide) (z := (v1 + 3) % 4294967296) rfl ?_
  refine wq_ic_ge rfl rfl hv4 (Nat.mod_lt _ (by decide)) (fun h1 => ?_) (fun h1 => ?_)
  · replace h := od_neg h (Nat.not_lt.mpr h1)
    exact dk_204_110T hT hv3 hv4 (wq_notL hv1) hu2 h
  · replace h := od_pos h h1
    refine wq_aload_n rfl rfl rfl ?_
    refine wq_iload rfl rfl hv4 ?_
    obtain ⟨y2, e3, h⟩ := od_bindE h
    refine wd_virtI (q := 0) (y := y2) (as := [36893488147419103232, v4]) rfl rfl rfl (by decide) (Nat.le_of_ble_eq_true rfl) (Nat.le_of_ble_eq_true rfl) rfl (Nat.le_of_ble_eq_true rfl) rfl (dkT_28 hT hv4 e3) (fun p4 T5 => ?_)
    obtain ⟨y6, e7, h⟩ := od_bindE h
    refine wd_statZ (y := y6) (as := [y2.1]) rfl (by decide) (Nat.le_of_ble_eq_true rfl) rfl (Nat.le_of_ble_eq_true rfl) rfl (dkT_198 T5 p4 e7) (fun p8 T9 => ?_)
    refine wq_if_eq rfl rfl (wm_zlt p8) (fun h10 => ?_) (fun h10 => ?_)
    · replace h := od_pos h h10
      exact dk_204_110T T9 hv3 hv4 (wq_notL hv1) hu2 h
    · replace h := od_neg h h10
      refine wq_bipush rfl rfl ?_
      refine wq_iload_n rfl rfl hv3 ?_
      refine wq_imul rfl (by decide) hv3 ?_
      refine wq_aload_n rfl rfl rfl ?_
      refine wq_iload rfl rfl hv4 ?_
      obtain ⟨y11, e12, h⟩ := od_bindE h
      refine wd_virtI (q := 0) (y := y11) (as := [36893488147419103232, v4]) rfl rfl rfl (by decide) (Nat.le_of_ble_eq_true rfl) (Nat.le_of_ble_eq_true rfl) rfl (Nat.le_of_ble_eq_true rfl) rfl (dkT_28 T9 hv4 e12) (fun p13 T14 => ?_)
      refine wq_iaddZ rfl (Nat.mod_lt _ (by decide)) p13 (z := ((ev_oMul 10 v3) + y11.1) % 4294967296) rfl ?_
      obtain ⟨y15, e16, h⟩ := od_letE h
      refine wq_top e16.symm ?_
      have p17 : y15 < 4294967296 := wd_lt e16 (Nat.mod_lt _ (by decide))
      refine wq_bipush rfl rfl ?_
      refine wq_isubZ rfl p17 (by decide) (z := (y15 + (4294967296 - 48)) % 4294967296) rfl ?_
      obtain ⟨y18, e19, h⟩ := od_letE h
      refine wq_top e19.symm ?_
      have p20 : y18 < 4294967296 := wd_lt e19 (Nat.mod_lt _ (by decide))
      refine wq_istore_n rfl p20 (Nat.le_of_ble_eq_true rfl) (Or.inr ⟨_, rfl, hu2⟩) (L' := [36893488147419103232, v1, u2, y18, v4]) rfl ?_
      obtain ⟨y21, e22, h⟩ := od_letE h
      have p23 : y21 < 4294967296 := wd_lt e22 (Nat.mod_lt _ (by decide))
      refine wq_iincZ rfl rfl hv4 (Or.inr ⟨_, rfl, (wq_notL p20)⟩) rfl (z := y21) e22.symm (L' := [36893488147419103232, v1, u2, y18, y21]) rfl ?_
      refine wq_goto rfl rfl ?_
      exact hr69 T14 hv1 p20 p23 hu2 h
def dk_204_69 (n : Nat) : Nat → wq_F → Nat → Nat → Nat → Option (Nat × wq_F)
  | 0 => fun _ _ _ _ => none
  | g + 1 => dk_204_69b n (dk_204_69 n g)
theorem dk_204_69T {d n : Nat} : ∀ g : Nat, ∀ ⦃u2 : Nat⦄ ⦃F : wq_F⦄ (hT : wm_T F) ⦃v1 : Nat⦄ (hv1 : v1 < 4294967296) ⦃v3 : Nat⦄ (hv3 : v3 < 4294967296) ⦃v4 : Nat⦄ (hv4 : v4 < 4294967296) (hu2 : ev_isL u2 = false) ⦃x : Nat × wq_F⦄ (h : dk_204_69 n g F v1 v3 v4 = some x), wq (wq_cf (d + 1)) (ev_un al_mX12_escape.2.2.2.2) (some .int) 69 [36893488147419103232, v1, u2, v3, v4] [] wm_sh F 0 0 (wkI wm_T wm_sh x)
  | 0 => by
    intro u2 F hT v1 hv1 v3 hv3 v4 hv4 hu2 x h
    cases h
  | g + 1 => dk_204_69bT (dk_204_69T g)
def dk_204_51 (n : Nat) (F : wq_F) (v1 : Nat) (v2 : Nat) (s0 : Nat) : Option (Nat × wq_F) :=
  (dk_198 F v2).bind fun y1 =>
  if y1.1 = 0 then
    dk_204_110 n y1.2 s0 ((v1 + 1) % 4294967296)
  else
    dk_204_69 n n y1.2 v1 0 v1
theorem dk_204_51T {d n : Nat} : ∀ ⦃F : wq_F⦄ (hT : wm_T F) ⦃v1 : Nat⦄ (hv1 : v1 < 4294967296) ⦃v2 : Nat⦄ (hv2 : v2 < 4294967296) ⦃s0 : Nat⦄ (hs0 : s0 < 4294967296) ⦃x : Nat × wq_F⦄ (h : dk_204_51 n F v1 v2 s0 = some x), wq (wq_cf (d + 1)) (ev_un al_mX12_escape.2.2.2.2) (some .int) 51 [36893488147419103232, v1, v2, 73786976294838206464, 73786976294838206464] [s0] wm_sh F 0 0 (wkI wm_T wm_sh x) := by
  intro F hT v1 hv1 v2 hv2 s0 hs0 x h
  unfold dk_204_51 at h
  refine wq_istore_n rfl hs0 (Nat.le_of_ble_eq_true rfl) (Or.inr ⟨_, rfl, (wq_notL hv2)⟩) (L' := [36893488147419103232, v1, v2, s0, 73786976294838206464]) rfl ?_
  refine wq_iload_n rfl rfl hv1 ?_
  refine wq_iconst rfl rfl ?_
  refine wq_iaddZ rfl hv1 (wm_zlt (by decide)) (z := (v1 + 1) % 4294967296) rfl ?_
  refine wq_istore rfl (Nat.mod_lt _ (by decide)) (Nat.le_of_ble_eq_true rfl) (Or.inr ⟨_, rfl, (wq_notL hs0)⟩) (L' := [36893488147419103232, v1, v2, s0, (v1 + 1) % 4294967296]) rfl ?_
  refine wq_iload_n rfl rfl hv2 ?_
  obtain ⟨y1, e2, h⟩ := od_bindE h
  refine wd_statZ (y := y1) (as := [v2]) rfl (by decide) (Nat.le_of_ble_eq_true rfl) rfl (Nat.le_of_ble_eq_true rfl) rfl (dkT_198 hT hv2 e2) (fun p3 T4 => ?_)
  refine wq_if_eq rfl rfl (wm_zlt p3) (fun h5 => ?_) (fun h5 => ?_)
  · replace h := od_pos h h5
    exact dk_204_110T T4 hs0 (Nat.mod_lt _ (by decide)) (wq_notL hv1) (wq_notL hv2) h
  · replace h := od_neg h h5
    refine wq_iconst rfl rfl ?_
    refine wq_istore_n rfl (wm_zlt (by decide)) (Nat.le_of_ble_eq_true rfl) (Or.inr ⟨_, rfl, (wq_notL hv2)⟩) (L' := [36893488147419103232, v1, v2, 0, (v1 + 1) % 4294967296]) rfl ?_
    refine wq_iload_n rfl rfl hv1 ?_
    refine wq_istore rfl hv1 (Nat.le_of_ble_eq_true rfl) (Or.inr ⟨_, rfl, (wq_notL (wm_zlt (by decide)))⟩) (L' := [36893488147419103232, v1, v2, 0, v1]) rfl ?_
    exact dk_204_69T n T4 hv1 (wm_zlt (by decide)) hv1 (wq_notL hv2) h
/-- X12_escape -/
def dk_204 (n : Nat) (F : wq_F) (a0 : Nat) : Option (Nat × wq_F) :=
  (dk_28 F a0).bind fun y1 =>
  if y1.1 = 110 then
    dk_204_51 n y1.2 a0 y1.1 10
  else
    if y1.1 = 116 then
      dk_204_51 n y1.2 a0 y1.1 9
    else
      if y1.1 = 92 then
        dk_204_51 n y1.2 a0 y1.1 y1.1
      else
        if y1.1 = 34 then
          dk_204_51 n y1.2 a0 y1.1 y1.1
        else
          if y1.1 = 39 then
            dk_204_51 n y1.2 a0 y1.1 y1.1
          else
            dk_204_51 n y1.2 a0 y1.1 4294967295
theorem dkT_204 {d n : Nat} {F : wq_F} (hT : wm_T F) {a0 : Nat} (ha0 : a0 < 4294967296) {x : Nat × wq_F} (h : dk_204 n F a0 = some x) : mq (d + 1 + 1) 204 [36893488147419103232, a0] wm_sh F (wkI wm_T wm_sh x) := by
  have e : ev_ent [36893488147419103232, a0] = [36893488147419103232, a0] := by
    show 36893488147419103232 :: ev_ent [a0] = _
    rw [wm_entI ha0]
    rfl
  refine mq_of (maxL := 5) (rt := (some .int)) (code := (ev_un al_mX12_escape.2.2.2.2)) (L := [36893488147419103232, a0, 73786976294838206464, 73786976294838206464, 73786976294838206464]) rfl (by rw [e]; exact Nat.le_of_ble_eq_true rfl) (by rw [e]; rfl) ?_
  unfold dk_204 at h
  refine wq_aload_n rfl rfl rfl ?_
  refine wq_iload_n rfl rfl ha0 ?_
  obtain ⟨y1, e2, h⟩ := od_bindE h
  refine wd_virtI (q := 0) (y := y1) (as := [36893488147419103232, a0]) rfl rfl rfl (by decide) (Nat.le_of_ble_eq_true rfl) (Nat.le_of_ble_eq_true rfl) rfl (Nat.le_of_ble_eq_true rfl) rfl (dkT_28 hT ha0 e2) (fun p3 T4 => ?_)
  refine wq_istore_n rfl p3 (Nat.le_of_ble_eq_true rfl) (Or.inr ⟨_, rfl, (wq_notL ha0)⟩) (L' := [36893488147419103232, a0, y1.1, 73786976294838206464, 73786976294838206464]) rfl ?_
  refine wq_iload_n rfl rfl p3 ?_
  refine wq_bipush rfl rfl ?_
  refine wq_ic_ne rfl rfl p3 (by decide) (fun h5 => ?_) (fun h5 => ?_)
  · replace h := od_neg h h5
    refine wq_iload_n rfl rfl p3 ?_
    refine wq_bipush rfl rfl ?_
    refine wq_ic_ne rfl rfl p3 (by decide) (fun h6 => ?_) (fun h6 => ?_)
    · replace h := od_neg h h6
      refine wq_iload_n rfl rfl p3 ?_
      refine wq_bipush rfl rfl ?_
      refine wq_ic_eq rfl rfl p3 (by decide) (fun h7 => ?_) (fun h7 => ?_)
      · replace h := od_pos h h7
        refine wq_iload_n rfl rfl p3 ?_
        refine wq_goto rfl rfl ?_
        exact dk_204_51T T4 ha0 p3 p3 h
      · replace h := od_neg h h7
        refine wq_iload_n rfl rfl p3 ?_
        refine wq_bipush rfl rfl ?_
        refine wq_ic_eq rfl rfl p3 (by decide) (fun h8 => ?_) (fun h8 => ?_)
        · replace h := od_pos h h8
          refine wq_iload_n rfl rfl p3 ?_
          refine wq_goto rfl rfl ?_
          exact dk_204_51T T4 ha0 p3 p3 h
        · replace h := od_neg h h8
          refine wq_iload_n rfl rfl p3 ?_
          refine wq_bipush rfl rfl ?_
          refine wq_ic_ne rfl rfl p3 (by decide) (fun h9 => ?_) (fun h9 => ?_)
          · replace h := od_neg h h9
            refine wq_iconst rfl rfl ?_
            exact dk_204_51T T4 ha0 p3 (by decide) h
          · replace h := od_pos h h9
            refine wq_iload_n rfl rfl p3 ?_
            refine wq_goto rfl rfl ?_
            exact dk_204_51T T4 ha0 p3 p3 h
    · replace h := od_pos h h6
      refine wq_bipush rfl rfl ?_
      refine wq_goto rfl rfl ?_
      exact dk_204_51T T4 ha0 p3 (by decide) h
  · replace h := od_pos h h5
    refine wq_bipush rfl rfl ?_
    refine wq_goto rfl rfl ?_
    exact dk_204_51T T4 ha0 p3 (by decide) h
