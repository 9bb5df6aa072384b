/-! ===== 75f: the class: methods as functions on memories (by wip/whole2/law73.py, dc.py): 178 X8_putPiece, 179 X8_putString, 183 X8_make ===== -/
/-- X8_putPiece -/
def dk_178 (F : wq_F) (a0 : Nat) (a1 : Nat) (a2 : Nat) : Option (Nat × wq_F) :=
  od_let ((a2 + (4294967296 - a1)) % 4294967296) fun y1 =>
  od_let ((2200 + (4294967296 - (F 2 15))) % 4294967296) fun y4 =>
  od_let (if ev_s y4 < ev_s y1 then y4 else y1) fun y7 =>
  od_let (if ev_s y7 < ev_s 0 then 0 else y7) fun y10 =>
  od_g (a0 < 3000) <|
  od_g (((F 4 a0) + a1) % 4294967296 + y10 ≤ 32768 ∧ F 2 15 + y10 ≤ 2200) <|
  od_cp F 3 (((F 4 a0) + a1) % 4294967296) 10 (F 2 15) y10 fun F15 =>
  od_let (((F15 2 15) + y10) % 4294967296) fun y18 =>
  od_up F15 2 15 y18 fun F21 =>
  some (0, F21)
theorem dkT_178 {d : Nat} {F : wq_F} (hT : xm_T F) {a0 : Nat} (ha0 : a0 < 4294967296) {a1 : Nat} (ha1 : a1 < 4294967296) {a2 : Nat} (ha2 : a2 < 4294967296) {x : Nat × wq_F} (h : dk_178 F a0 a1 a2 = some x) : mq (d + 0 + 1) 178 [36893488147419103234, a0, a1, a2] xm_sh F (wkN xm_T xm_sh x) := by
  have e : ev_ent [36893488147419103234, a0, a1, a2] = [36893488147419103234, a0, a1, a2] := by
    show 36893488147419103234 :: ev_ent [a0, a1, a2] = _
    rw [wm_entI ha0, wm_entI ha1, wm_entI ha2]
    rfl
  refine mq_of (maxL := 5) (rt := none) (code := (ev_un al_mX8_putPiece.2.2.2.2)) (L := [36893488147419103234, a0, a1, a2, 73786976294838206464]) rfl (by rw [e]; exact Nat.le_of_ble_eq_true rfl) (by rw [e]; rfl) ?_
  unfold dk_178 at h
  refine wq_iload_n rfl rfl ha2 ?_
  refine wq_iload_n rfl rfl ha1 ?_
  refine wq_isubZ rfl ha2 ha1 (z := (a2 + (4294967296 - a1)) % 4294967296) rfl ?_
  obtain ⟨y1, e2, h⟩ := od_letE h
  refine wq_top e2.symm ?_
  have p3 : y1 < 4294967296 := wd_lt e2 (Nat.mod_lt _ (by decide))
  refine wq_aload_n rfl rfl rfl ?_
  refine xm_getR (v := 36893488147419103242) (q := 2) rfl rfl (by decide) (by decide) (hT.r (k := 2) 14 9 rfl (by decide) rfl) ?_
  refine wq_alen (q := 10) rfl rfl (by decide) (by decide) (by decide) ?_
  refine wq_aload_n rfl rfl rfl ?_
  refine xm_getI (q := 2) rfl rfl (by decide) (by decide) ?_
  refine wq_isubZ rfl (by decide) (hT.i (k := 2) 15 rfl (by decide) rfl) (z := (2200 + (4294967296 - (F 2 15))) % 4294967296) rfl ?_
  obtain ⟨y4, e5, h⟩ := od_letE h
  refine wq_top e5.symm ?_
  have p6 : y4 < 4294967296 := wd_lt e5 (Nat.mod_lt _ (by decide))
  refine wq_min rfl p3 p6 (Nat.le_of_ble_eq_true rfl) ?_
  obtain ⟨y7, e8, h⟩ := od_letE h
  refine wq_top e8.symm ?_
  have p9 : y7 < 4294967296 := wd_lt e8 (wd_ite p6 p3)
  refine wq_iconst rfl rfl ?_
  refine wq_max rfl p9 (wm_zlt (by decide)) (Nat.le_of_ble_eq_true rfl) ?_
  obtain ⟨y10, e11, h⟩ := od_letE h
  refine wq_top e11.symm ?_
  have p12 : y10 < 4294967296 := wd_lt e11 (wd_ite (wm_zlt (by decide)) p9)
  refine wq_istore rfl p12 (Nat.le_of_ble_eq_true rfl) (Or.inr ⟨_, rfl, (wq_notL ha2)⟩) (L' := [36893488147419103234, a0, a1, a2, y10]) rfl ?_
  refine wq_aload_n rfl rfl rfl ?_
  refine xm_getR (v := 36893488147419103235) (q := 2) rfl rfl (by decide) (by decide) (hT.r (k := 2) 0 2 rfl (by decide) rfl) ?_
  refine wq_aload_n rfl rfl rfl ?_
  refine xm_getR (v := 36893488147419103236) (q := 2) rfl rfl (by decide) (by decide) (hT.r (k := 2) 1 3 rfl (by decide) rfl) ?_
  refine wq_iload_n rfl rfl ha0 ?_
  obtain ⟨g13, h⟩ := od_gE h
  refine wq_iaload (q := 4) (n := 3000) rfl rfl (by decide) g13 (by decide) ?_
  refine wq_iload_n rfl rfl ha1 ?_
  refine wq_iaddZ rfl (hT.ai (k := 4) rfl g13) ha1 (z := ((F 4 a0) + a1) % 4294967296) rfl ?_
  refine wq_aload_n rfl rfl rfl ?_
  refine xm_getR (v := 36893488147419103242) (q := 2) rfl rfl (by decide) (by decide) (hT.r (k := 2) 14 9 rfl (by decide) rfl) ?_
  refine wq_aload_n rfl rfl rfl ?_
  refine xm_getI (q := 2) rfl rfl (by decide) (by decide) ?_
  refine wq_iload rfl rfl p12 ?_
  obtain ⟨g14, h⟩ := od_gE h
  obtain ⟨F15, e16, h⟩ := od_cpE h
  refine wd_cpy (q := 3) (q2 := 10) (n1 := 32768) (n2 := 2200) rfl rfl rfl (by decide) (by decide) g14.1 g14.2 (by decide) (by decide) (Nat.le_of_ble_eq_true rfl) (fun i hi => hT.ab8 (k := 3) rfl (by omega)) e16 ?_
  have T17 : xm_T F15 := wd_T e16 (hT.cp (k := 3) (k2 := 10) (n := 32768) (n2 := 2200) rfl rfl g14.1)
  refine wq_aload_n rfl rfl rfl ?_
  refine wq_dup rfl rfl ?_
  refine xm_getI (q := 2) rfl rfl (by decide) (by decide) ?_
  refine wq_iload rfl rfl p12 ?_
  refine wq_iaddZ rfl (T17.i (k := 2) 15 rfl (by decide) rfl) p12 (z := ((F15 2 15) + y10) % 4294967296) rfl ?_
  obtain ⟨y18, e19, h⟩ := od_letE h
  refine wq_top e19.symm ?_
  have p20 : y18 < 4294967296 := wd_lt e19 (Nat.mod_lt _ (by decide))
  obtain ⟨F21, e22, h⟩ := od_upE h
  refine xmE_put (q := 2) rfl rfl (by decide) (by decide) (wq_I p20) e22 ?_
  have T23 : xm_T F21 := wd_T e22 (T17.uf (k := 2) (f := 15) (c := 0) (v := y18) rfl (by decide) rfl (show y18 < 4294967296 from p20))
  exact wq_ret rfl (wkON h T23)
/-- X8_putString -/
def dk_179 (F : wq_F) (a0 : Nat) : Option (Nat × wq_F) :=
  od_g (a0 < 3000) <|
  (dk_178 F a0 0 (F 5 a0)).bind fun y2 =>
  some (0, y2.2)
theorem dkT_179 {d : Nat} {F : wq_F} (hT : xm_T F) {a0 : Nat} (ha0 : a0 < 4294967296) {x : Nat × wq_F} (h : dk_179 F a0 = some x) : mq (d + 1 + 1) 179 [36893488147419103234, a0] xm_sh F (wkN xm_T xm_sh x) := by
  have e : ev_ent [36893488147419103234, a0] = [36893488147419103234, a0] := by
    show 36893488147419103234 :: ev_ent [a0] = _
    rw [wm_entI ha0]
    rfl
  refine mq_of (maxL := 2) (rt := none) (code := (ev_un al_mX8_putString.2.2.2.2)) (L := [36893488147419103234, a0]) rfl (by rw [e]; exact Nat.le_of_ble_eq_true rfl) (by rw [e]; rfl) ?_
  unfold dk_179 at h
  refine wq_aload_n rfl rfl rfl ?_
  refine wq_iload_n rfl rfl ha0 ?_
  refine wq_iconst rfl rfl ?_
  refine wq_aload_n rfl rfl rfl ?_
  refine xm_getR (v := 36893488147419103237) (q := 2) rfl rfl (by decide) (by decide) (hT.r (k := 2) 2 4 rfl (by decide) rfl) ?_
  refine wq_iload_n rfl rfl ha0 ?_
  obtain ⟨g1, h⟩ := od_gE h
  refine wq_iaload (q := 5) (n := 3000) rfl rfl (by decide) g1 (by decide) ?_
  obtain ⟨y2, e3, h⟩ := od_bindE h
  refine wd_virtN (q := 2) (y := y2) (as := [36893488147419103234, a0, 0, F 5 a0]) rfl rfl rfl (by decide) (Nat.le_of_ble_eq_true rfl) (Nat.le_of_ble_eq_true rfl) rfl (Nat.le_of_ble_eq_true rfl) rfl (dkT_178 hT ha0 (wm_zlt (by decide)) (hT.ai (k := 5) rfl g1) e3) (fun T5 => ?_)
  exact wq_ret rfl (wkON h T5)
def dk_183_59 (n : Nat) (F : wq_F) (v1 : Nat) : Option (Nat × wq_F) :=
  od_g (v1 < 3000) <|
  od_up F 9 v1 ((ev_b8 4)) fun F2 =>
  od_up F2 2 12 (((F2 2 12) + 1) % 4294967296) fun F5 =>
  od_let (((F5 2 13) + (F5 2 15)) % 4294967296) fun y8 =>
  od_up F5 2 13 y8 fun F11 =>
  some (v1, F11)
theorem dk_183_59T {d n : Nat} : ∀ ⦃F : wq_F⦄ (hT : xm_T F) ⦃v1 : Nat⦄ (hv1 : v1 < 4294967296) ⦃x : Nat × wq_F⦄ (h : dk_183_59 n F v1 = some x), wq (wq_cf (d + 1)) (ev_un al_mX8_make.2.2.2.2) (some .int) 59 [36893488147419103234, v1] [] xm_sh F 0 0 (wkI xm_T xm_sh x) := by
  intro F hT v1 hv1 x h
  unfold dk_183_59 at h
  refine wq_aload_n rfl rfl rfl ?_
  refine xm_getR (v := 36893488147419103241) (q := 2) rfl rfl (by decide) (by decide) (hT.r (k := 2) 7 8 rfl (by decide) rfl) ?_
  refine wq_iload_n rfl rfl hv1 ?_
  refine wq_iconst rfl rfl ?_
  obtain ⟨g1, h⟩ := od_gE h
  obtain ⟨F2, e3, h⟩ := od_upE h
  refine wd_bastore (q := 9) (n := 3000) rfl rfl (by decide) g1 (by decide) (by decide) e3 ?_
  have T4 : xm_T F2 := wd_T e3 (hT.ua (k := 9) (kd := 1001) (n := 3000) (i := v1) (v := (ev_b8 4)) rfl (by decide) g1 ⟨ev_b8_lt _, wm_b8b8 _⟩)
  refine wq_aload_n rfl rfl rfl ?_
  refine wq_dup rfl rfl ?_
  refine xm_getI (q := 2) rfl rfl (by decide) (by decide) ?_
  refine wq_iconst rfl rfl ?_
  refine wq_iaddZ rfl (T4.i (k := 2) 12 rfl (by decide) rfl) (wm_zlt (by decide)) (z := ((F2 2 12) + 1) % 4294967296) rfl ?_
  obtain ⟨F5, e6, h⟩ := od_upE h
  refine xmE_put (q := 2) rfl rfl (by decide) (by decide) (wq_I (Nat.mod_lt _ (by decide))) e6 ?_
  have T7 : xm_T F5 := wd_T e6 (T4.uf (k := 2) (f := 12) (c := 0) (v := ((F2 2 12) + 1) % 4294967296) rfl (by decide) rfl (show ((F2 2 12) + 1) % 4294967296 < 4294967296 from (Nat.mod_lt _ (by decide))))
  refine wq_aload_n rfl rfl rfl ?_
  refine wq_dup rfl rfl ?_
  refine xm_getI (q := 2) rfl rfl (by decide) (by decide) ?_
  refine wq_aload_n rfl rfl rfl ?_
  refine xm_getI (q := 2) rfl rfl (by decide) (by decide) ?_
  refine wq_iaddZ rfl (T7.i (k := 2) 13 rfl (by decide) rfl) (T7.i (k := 2) 15 rfl (by decide) rfl) (z := ((F5 2 13) + (F5 2 15)) % 4294967296) rfl ?_
  obtain ⟨y8, e9, h⟩ := od_letE h
  refine wq_top e9.symm ?_
  have p10 : y8 < 4294967296 := wd_lt e9 (Nat.mod_lt _ (by decide))
  obtain ⟨F11, e12, h⟩ := od_upE h
  refine xmE_put (q := 2) rfl rfl (by decide) (by decide) (wq_I p10) e12 ?_
  have T13 : xm_T F11 := wd_T e12 (T7.uf (k := 2) (f := 13) (c := 0) (v := y8) rfl (by decide) rfl (show y8 < 4294967296 from p10))
  refine wq_iload_n rfl rfl hv1 ?_
  exact wq_iret rfl hv1 rfl (wkOI h T13 hv1)
def dk_183_22 (n : Nat) (F : wq_F) (v1 : Nat) : Option (Nat × wq_F) :=
  if ev_s (F 2 12) < ev_s 800 then
    od_let (((F 2 13) + (F 2 15)) % 4294967296) fun y2 =>
    if ev_s 24000 < ev_s y2 then
      some (4294967295, F)
    else
      if v1 = 4294967295 then
        (dk_9 F).bind fun y7 =>
        dk_183_59 n y7.2 y7.1
      else
        dk_183_59 n F v1
  else
    some (4294967295, F)
theorem dk_183_22T {d n : Nat} : ∀ ⦃F : wq_F⦄ (hT : xm_T F) ⦃v1 : Nat⦄ (hv1 : v1 < 4294967296) ⦃x : Nat × wq_F⦄ (h : dk_183_22 n F v1 = some x), wq (wq_cf (d + 1)) (ev_un al_mX8_make.2.2.2.2) (some .int) 22 [36893488147419103234, v1] [] xm_sh F 0 0 (wkI xm_T xm_sh x) := by
  intro F hT v1 hv1 x h
  unfold dk_183_22 at h
  refine wq_aload_n rfl rfl rfl ?_
  refine xm_getI (q := 2) rfl rfl (by decide) (by decide) ?_
  refine wq_sipush rfl rfl ?_
  refine wq_ic_ge rfl rfl (hT.i (k := 2) 12 rfl (by decide) rfl) (by decide) (fun h1 => ?_) (fun h1 => ?_)
  · replace h := od_neg h (Nat.not_lt.mpr h1)
    refine wq_iconst rfl rfl ?_
    exact wq_iret rfl (by decide) rfl (wkOI h hT (by decide))
  · replace h := od_pos h h1
    refine wq_aload_n rfl rfl rfl ?_
    refine xm_getI (q := 2) rfl rfl (by decide) (by decide) ?_
    refine wq_aload_n rfl rfl rfl ?_
    refine xm_getI (q := 2) rfl rfl (by decide) (by decide) ?_
    refine wq_iaddZ rfl (hT.i (k := 2) 13 rfl (by decide) rfl) (hT.i (k := 2) 15 rfl (by decide) rfl) (z := ((F 2 13) + (F 2 15)) % 4294967296) rfl ?_
    obtain ⟨y2, e3, h⟩ := od_letE h
    refine wq_top e3.symm ?_
    have p4 : y2 < 4294967296 := wd_lt e3 (Nat.mod_lt _ (by decide))
    refine wq_sipush rfl rfl ?_
    refine wq_ic_le rfl rfl p4 (by decide) (fun h5 => ?_) (fun h5 => ?_)
    · replace h := od_neg h (Nat.not_lt.mpr h5)
      refine wq_iload_n rfl rfl hv1 ?_
      refine wq_iconst rfl rfl ?_
      refine wq_ic_ne rfl rfl hv1 (by decide) (fun h6 => ?_) (fun h6 => ?_)
      · replace h := od_neg h h6
        exact dk_183_59T hT hv1 h
      · replace h := od_pos h h6
        refine wq_aload_n rfl rfl rfl ?_
        obtain ⟨y7, e8, h⟩ := od_bindE h
        refine wd_virtI (q := 2) (y := y7) (as := [36893488147419103234]) rfl rfl rfl (by decide) (Nat.le_of_ble_eq_true rfl) (Nat.le_of_ble_eq_true rfl) rfl (Nat.le_of_ble_eq_true rfl) rfl (dkT_9 hT e8) (fun p9 T10 => ?_)
        refine wq_istore_n rfl p9 (Nat.le_of_ble_eq_true rfl) (Or.inr ⟨_, rfl, rfl⟩) (L' := [36893488147419103234, y7.1]) rfl ?_
        exact dk_183_59T T10 p9 h
    · replace h := od_pos h h5
      refine wq_iconst rfl rfl ?_
      exact wq_iret rfl (by decide) rfl (wkOI h hT (by decide))
/-- X8_make -/
def dk_183 (n : Nat) (F : wq_F) : Option (Nat × wq_F) :=
  (dk_8 n F).bind fun y1 =>
  if y1.1 = 4294967295 then
    dk_183_22 n y1.2 y1.1
  else
    od_g (y1.1 < 3000) <|
    if (y1.2 9 y1.1) = 2 then
      dk_183_22 n y1.2 y1.1
    else
      some (y1.1, y1.2)
theorem dkT_183 {d n : Nat} {F : wq_F} (hT : xm_T F) {x : Nat × wq_F} (h : dk_183 n F = some x) : mq (d + 1 + 1) 183 [36893488147419103234] xm_sh F (wkI xm_T xm_sh x) := by
  have e : ev_ent [36893488147419103234] = [36893488147419103234] := by
    rfl
  refine mq_of (maxL := 2) (rt := (some .int)) (code := (ev_un al_mX8_make.2.2.2.2)) (L := [36893488147419103234, 73786976294838206464]) rfl (by rw [e]; exact Nat.le_of_ble_eq_true rfl) (by rw [e]; rfl) ?_
  unfold dk_183 at h
  refine wq_aload_n rfl rfl rfl ?_
  obtain ⟨y1, e2, h⟩ := od_bindE h
  refine wd_virtI (q := 2) (y := y1) (as := [36893488147419103234]) rfl rfl rfl (by decide) (Nat.le_of_ble_eq_true rfl) (Nat.le_of_ble_eq_true rfl) rfl (Nat.le_of_ble_eq_true rfl) rfl (dkT_8 hT e2) (fun p3 T4 => ?_)
  refine wq_istore_n rfl p3 (Nat.le_of_ble_eq_true rfl) (Or.inr ⟨_, rfl, rfl⟩) (L' := [36893488147419103234, y1.1]) rfl ?_
  refine wq_iload_n rfl rfl p3 ?_
  refine wq_iconst rfl rfl ?_
  refine wq_ic_eq rfl rfl p3 (by decide) (fun h5 => ?_) (fun h5 => ?_)
  · replace h := od_pos h h5
    exact dk_183_22T T4 p3 h
  · replace h := od_neg h h5
    refine wq_aload_n rfl rfl rfl ?_
    refine xm_getR (v := 36893488147419103241) (q := 2) rfl rfl (by decide) (by decide) (T4.r (k := 2) 7 8 rfl (by decide) rfl) ?_
    refine wq_iload_n rfl rfl p3 ?_
    obtain ⟨g6, h⟩ := od_gE h
    refine wq_baload (q := 9) (n := 3000) rfl rfl (by decide) g6 (by decide) ?_
    refine wq_iconst rfl rfl ?_
    refine wq_ic_eq rfl rfl (T4.ab (k := 9) rfl g6) (by decide) (fun h7 => ?_) (fun h7 => ?_)
    · replace h := od_pos h h7
      exact dk_183_22T T4 p3 h
    · replace h := od_neg h h7
      refine wq_iload_n rfl rfl p3 ?_
      exact wq_iret rfl p3 rfl (wkOI h T4 p3)
