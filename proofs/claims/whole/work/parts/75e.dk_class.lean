/-! ===== 75e: the class: methods as functions on memories (by wip/whole2/law73.py, dc.py): 148 X4_expression, 149 X4_operation, 150 X4_operand, 151 X4_table, 153 X4_keyedField, 154 X4_itemField, 155 X4_body, 76 X4_judge, 172 X8_lengthOf, 173 X8_byteOf, 174 X8_has, 175 X8_compare, 177 X8_rowByte ===== -/
def dk_148_86b (R : dk_Rt) (n : Nat) (r86 : wq_F → Nat → Nat → Nat → Nat → Option (Nat × wq_F)) (F : wq_F) (v1 : Nat) (v2 : Nat) (v3 : Nat) (v5 : Nat) : Option (Nat × wq_F) :=
  if ev_s 1500 < ev_s v5 then
    some (v3, F)
  else
    (dk_145 F).bind fun y2 =>
    if ev_s v1 < ev_s y2.1 then
      (R 149 [v2] y2.2).bind fun y7 =>
      od_let ((v5 + 1) % 4294967296) fun y11 =>
      r86 y7.2 v1 v2 0 y11
    else
      some (v3, y2.2)
theorem dk_148_86bT {d n : Nat} {R : dk_Rt} (hR : dk_spec (d + 12) R) {r86 : wq_F → Nat → Nat → Nat → Nat → Option (Nat × wq_F)} (hr86 : ∀ ⦃u4 : Nat⦄ ⦃F : wq_F⦄ (hT : xm_T F) ⦃v1 : Nat⦄ (hv1 : v1 < 4294967296) ⦃v2 : Nat⦄ (hv2 : v2 < 4294967296) ⦃v3 : Nat⦄ (hv3 : v3 < 2) ⦃v5 : Nat⦄ (hv5 : v5 < 4294967296) (hu4 : ev_isL u4 = false) ⦃x : Nat × wq_F⦄ (h : r86 F v1 v2 v3 v5 = some x), wq (wq_cf (d + 12)) (ev_un al_mX4_expression.2.2.2.2) (some .boolean) 86 [36893488147419103288, v1, v2, v3, u4, v5] [] xm_sh F 0 0 (wkZ xm_T xm_sh x)) : ∀ ⦃u4 : Nat⦄ ⦃F : wq_F⦄ (hT : xm_T F) ⦃v1 : Nat⦄ (hv1 : v1 < 4294967296) ⦃v2 : Nat⦄ (hv2 : v2 < 4294967296) ⦃v3 : Nat⦄ (hv3 : v3 < 2) ⦃v5 : Nat⦄ (hv5 : v5 < 4294967296) (hu4 : ev_isL u4 = false) ⦃x : Nat × wq_F⦄ (h : dk_148_86b R n r86 F v1 v2 v3 v5 = some x), wq (wq_cf (d + 12)) (ev_un al_mX4_expression.2.2.2.2) (some .boolean) 86 [36893488147419103288, v1, v2, v3, u4, v5] [] xm_sh F 0 0 (wkZ xm_T xm_sh x) := by
  intro u4 F hT v1 hv1 v2 hv2 v3 hv3 v5 hv5 hu4 x h
  unfold dk_148_86b at h
  refine wq_iload rfl rfl hv5 ?_
  refine wq_sipush rfl rfl ?_
  refine wq_ic_gt rfl rfl hv5 (by decide) (fun h1 => ?_) (fun h1 => ?_)
  · replace h := od_pos h h1
    refine wq_iload_n rfl rfl (wm_zlt hv3) ?_
    exact wq_iret rfl (wm_zlt hv3) (Nat.blt_eq.mpr hv3) (wkOZ h hT hv3)
  · replace h := od_neg h (Nat.not_lt.mpr h1)
    refine wq_aload_n rfl rfl rfl ?_
    obtain ⟨y2, e3, h⟩ := od_bindE h
    refine wd_virtI (q := 56) (y := y2) (as := [36893488147419103288]) rfl rfl rfl (by decide) (Nat.le_of_ble_eq_true rfl) (Nat.le_of_ble_eq_true rfl) rfl (Nat.le_of_ble_eq_true rfl) rfl (dkT_145 hT e3) (fun p4 T5 => ?_)
    refine wq_iload_n rfl rfl hv1 ?_
    refine wq_ic_le rfl rfl p4 hv1 (fun h6 => ?_) (fun h6 => ?_)
    · replace h := od_neg h (Nat.not_lt.mpr h6)
      refine wq_iload_n rfl rfl (wm_zlt hv3) ?_
      exact wq_iret rfl (wm_zlt hv3) (Nat.blt_eq.mpr hv3) (wkOZ h T5 hv3)
    · replace h := od_pos h h6
      refine wq_iconst rfl rfl ?_
      refine wq_istore_n rfl (wm_zlt (by decide)) (Nat.le_of_ble_eq_true rfl) (Or.inr ⟨_, rfl, (wq_notL hv2)⟩) (L' := [36893488147419103288, v1, v2, 0, u4, v5]) rfl ?_
      refine wq_aload_n rfl rfl rfl ?_
      refine wq_iload_n rfl rfl hv2 ?_
      obtain ⟨y7, e8, h⟩ := od_bindE h
      refine wd_virtN (q := 56) (y := y7) (as := [36893488147419103288, v2]) rfl rfl rfl (by decide) (Nat.le_of_ble_eq_true rfl) (Nat.le_of_ble_eq_true rfl) rfl (Nat.le_of_ble_eq_true rfl) rfl (dk_s149 hR T5 hv2 e8) (fun T10 => ?_)
      obtain ⟨y11, e12, h⟩ := od_letE h
      have p13 : y11 < 4294967296 := wd_lt e12 (Nat.mod_lt _ (by decide))
      refine wq_iincZ rfl rfl hv5 (Or.inr ⟨_, rfl, hu4⟩) rfl (z := y11) e12.symm (L' := [36893488147419103288, v1, v2, 0, u4, y11]) rfl ?_
      refine wq_goto rfl rfl ?_
      exact hr86 T10 hv1 hv2 (by decide) p13 hu4 h
def dk_148_86 (R : dk_Rt) (n : Nat) : Nat → wq_F → Nat → Nat → Nat → Nat → Option (Nat × wq_F)
  | 0 => fun _ _ _ _ _ => none
  | g + 1 => dk_148_86b R n (dk_148_86 R n g)
theorem dk_148_86T {d n : Nat} {R : dk_Rt} (hR : dk_spec (d + 12) R) : ∀ g : Nat, ∀ ⦃u4 : Nat⦄ ⦃F : wq_F⦄ (hT : xm_T F) ⦃v1 : Nat⦄ (hv1 : v1 < 4294967296) ⦃v2 : Nat⦄ (hv2 : v2 < 4294967296) ⦃v3 : Nat⦄ (hv3 : v3 < 2) ⦃v5 : Nat⦄ (hv5 : v5 < 4294967296) (hu4 : ev_isL u4 = false) ⦃x : Nat × wq_F⦄ (h : dk_148_86 R n g F v1 v2 v3 v5 = some x), wq (wq_cf (d + 12)) (ev_un al_mX4_expression.2.2.2.2) (some .boolean) 86 [36893488147419103288, v1, v2, v3, u4, v5] [] xm_sh F 0 0 (wkZ xm_T xm_sh x)
  | 0 => by
    intro u4 F hT v1 hv1 v2 hv2 v3 hv3 v5 hv5 hu4 x h
    cases h
  | g + 1 => dk_148_86bT hR (dk_148_86T hR g)
/-- X4_expression -/
def dk_148 (R : dk_Rt) (n : Nat) (F : wq_F) (a0 : Nat) (a1 : Nat) : Option (Nat × wq_F) :=
  (dk_114 F).bind fun y1 =>
  if y1.1 = 0 then
    (dk_109 y1.2 2).bind fun y32 =>
    some (0, y32.2)
  else
    if ev_s 20 < ev_s a1 then
      (dk_109 y1.2 3).bind fun y28 =>
      some (0, y28.2)
    else
      (dk_146 y1.2).bind fun y7 =>
      if y7.1 = 4294967295 then
        (R 150 [a1] y7.2).bind fun y12 =>
        dk_148_86 R n n y12.2 a0 a1 y12.1 0
      else
        (dk_77 n y7.2).bind fun y16 =>
        (R 148 [11, (a1 + 1) % 4294967296] y16.2).bind fun y20 =>
        (dk_112 y20.2 y7.1 0 (y7.2 57 6) 0).bind fun y24 =>
        dk_148_86 R n n y24.2 a0 a1 0 0
theorem dkT_148 {d n : Nat} {R : dk_Rt} (hR : dk_spec (d + 12) R) {F : wq_F} (hT : xm_T F) {a0 : Nat} (ha0 : a0 < 4294967296) {a1 : Nat} (ha1 : a1 < 4294967296) {x : Nat × wq_F} (h : dk_148 R n F a0 a1 = some x) : mq (d + 12 + 1) 148 [36893488147419103288, a0, a1] xm_sh F (wkZ xm_T xm_sh x) := by
  have e : ev_ent [36893488147419103288, a0, a1] = [36893488147419103288, a0, a1] := by
    show 36893488147419103288 :: ev_ent [a0, a1] = _
    rw [wm_entI ha0, wm_entI ha1]
    rfl
  refine mq_of (maxL := 6) (rt := (some .boolean)) (code := (ev_un al_mX4_expression.2.2.2.2)) (L := [36893488147419103288, a0, a1, 73786976294838206464, 73786976294838206464, 73786976294838206464]) rfl (by rw [e]; exact Nat.le_of_ble_eq_true rfl) (by rw [e]; rfl) ?_
  unfold dk_148 at h
  refine wq_aload_n rfl rfl rfl ?_
  obtain ⟨y1, e2, h⟩ := od_bindE h
  refine wd_virtZ (q := 56) (y := y1) (as := [36893488147419103288]) rfl rfl rfl (by decide) (Nat.le_of_ble_eq_true rfl) (Nat.le_of_ble_eq_true rfl) rfl (Nat.le_of_ble_eq_true rfl) rfl (dkT_114 hT e2) (fun p3 T4 => ?_)
  refine wq_if_ne rfl rfl (wm_zlt p3) (fun h5 => ?_) (fun h5 => ?_)
  · replace h := od_neg h h5
    refine wq_iload_n rfl rfl ha1 ?_
    refine wq_bipush rfl rfl ?_
    refine wq_ic_le rfl rfl ha1 (by decide) (fun h6 => ?_) (fun h6 => ?_)
    · replace h := od_neg h (Nat.not_lt.mpr h6)
      refine wq_iconst rfl rfl ?_
      refine wq_istore_n rfl (wm_zlt (by decide)) (Nat.le_of_ble_eq_true rfl) (Or.inr ⟨_, rfl, (wq_notL ha1)⟩) (L' := [36893488147419103288, a0, a1, 0, 73786976294838206464, 73786976294838206464]) rfl ?_
      refine wq_aload_n rfl rfl rfl ?_
      obtain ⟨y7, e8, h⟩ := od_bindE h
      refine wd_virtI (q := 56) (y := y7) (as := [36893488147419103288]) rfl rfl rfl (by decide) (Nat.le_of_ble_eq_true rfl) (Nat.le_of_ble_eq_true rfl) rfl (Nat.le_of_ble_eq_true rfl) rfl (dkT_146 T4 e8) (fun p9 T10 => ?_)
      refine wq_istore rfl p9 (Nat.le_of_ble_eq_true rfl) (Or.inr ⟨_, rfl, (wq_notL (wm_zlt (by decide)))⟩) (L' := [36893488147419103288, a0, a1, 0, y7.1, 73786976294838206464]) rfl ?_
      refine wq_iload rfl rfl p9 ?_
      refine wq_iconst rfl rfl ?_
      refine wq_ic_eq rfl rfl p9 (by decide) (fun h11 => ?_) (fun h11 => ?_)
      · replace h := od_pos h h11
        refine wq_aload_n rfl rfl rfl ?_
        refine wq_iload_n rfl rfl ha1 ?_
        obtain ⟨y12, e13, h⟩ := od_bindE h
        refine wd_virtZ (q := 56) (y := y12) (as := [36893488147419103288, a1]) rfl rfl rfl (by decide) (Nat.le_of_ble_eq_true rfl) (Nat.le_of_ble_eq_true rfl) rfl (Nat.le_of_ble_eq_true rfl) rfl (dk_s150 hR T10 ha1 e13) (fun p14 T15 => ?_)
        refine wq_istore_n rfl (wm_zlt p14) (Nat.le_of_ble_eq_true rfl) (Or.inr ⟨_, rfl, (wq_notL ha1)⟩) (L' := [36893488147419103288, a0, a1, y12.1, y7.1, 73786976294838206464]) rfl ?_
        refine wq_iconst rfl rfl ?_
        refine wq_istore rfl (wm_zlt (by decide)) (Nat.le_of_ble_eq_true rfl) (Or.inr ⟨_, rfl, (wq_notL p9)⟩) (L' := [36893488147419103288, a0, a1, y12.1, y7.1, 0]) rfl ?_
        exact dk_148_86T hR n T15 ha0 ha1 p14 (wm_zlt (by decide)) (wq_notL p9) h
      · replace h := od_neg h h11
        refine wq_aload_n rfl rfl rfl ?_
        refine xm_getR (v := 36893488147419103289) (q := 56) rfl rfl (by decide) (by decide) (T10.r (k := 56) 0 56 rfl (by decide) rfl) ?_
        refine xm_getI (q := 57) rfl rfl (by decide) (by decide) ?_
        refine wq_istore rfl (T10.i (k := 57) 6 rfl (by decide) rfl) (Nat.le_of_ble_eq_true rfl) (Or.inr ⟨_, rfl, (wq_notL p9)⟩) (L' := [36893488147419103288, a0, a1, 0, y7.1, y7.2 57 6]) rfl ?_
        refine wq_aload_n rfl rfl rfl ?_
        obtain ⟨y16, e17, h⟩ := od_bindE h
        refine wd_virtN (q := 56) (y := y16) (as := [36893488147419103288]) rfl rfl rfl (by decide) (Nat.le_of_ble_eq_true rfl) (Nat.le_of_ble_eq_true rfl) rfl (Nat.le_of_ble_eq_true rfl) rfl (dkT_77 T10 e17) (fun T19 => ?_)
        refine wq_aload_n rfl rfl rfl ?_
        refine wq_bipush rfl rfl ?_
        refine wq_iload_n rfl rfl ha1 ?_
        refine wq_iconst rfl rfl ?_
        refine wq_iaddZ rfl ha1 (wm_zlt (by decide)) (z := (a1 + 1) % 4294967296) rfl ?_
        obtain ⟨y20, e21, h⟩ := od_bindE h
        refine wd_virtZ (q := 56) (y := y20) (as := [36893488147419103288, 11, (a1 + 1) % 4294967296]) rfl rfl rfl (by decide) (Nat.le_of_ble_eq_true rfl) (Nat.le_of_ble_eq_true rfl) rfl (Nat.le_of_ble_eq_true rfl) rfl (dk_s148 hR T19 (by decide) (Nat.mod_lt _ (by decide)) e21) (fun p22 T23 => ?_)
        refine wq_pop rfl (wq_notL (wm_zlt p22)) ?_
        refine wq_aload_n rfl rfl rfl ?_
        refine wq_iload rfl rfl p9 ?_
        refine wq_iconst rfl rfl ?_
        refine wq_iload rfl rfl (T10.i (k := 57) 6 rfl (by decide) rfl) ?_
        refine wq_iconst rfl rfl ?_
        obtain ⟨y24, e25, h⟩ := od_bindE h
        refine wd_virtN (q := 56) (y := y24) (as := [36893488147419103288, y7.1, 0, y7.2 57 6, 0]) rfl rfl rfl (by decide) (Nat.le_of_ble_eq_true rfl) (Nat.le_of_ble_eq_true rfl) rfl (Nat.le_of_ble_eq_true rfl) rfl (dkT_112 T23 p9 (wm_zlt (by decide)) (T10.i (k := 57) 6 rfl (by decide) rfl) (wm_zlt (by decide)) e25) (fun T27 => ?_)
        refine wq_goto rfl rfl ?_
        refine wq_iconst rfl rfl ?_
        refine wq_istore rfl (wm_zlt (by decide)) (Nat.le_of_ble_eq_true rfl) (Or.inr ⟨_, rfl, (wq_notL p9)⟩) (L' := [36893488147419103288, a0, a1, 0, y7.1, 0]) rfl ?_
        exact dk_148_86T hR n T27 ha0 ha1 (by decide) (wm_zlt (by decide)) (wq_notL p9) h
    · replace h := od_pos h h6
      refine wq_aload_n rfl rfl rfl ?_
      refine wq_iconst rfl rfl ?_
      obtain ⟨y28, e29, h⟩ := od_bindE h
      refine wd_virtN (q := 56) (y := y28) (as := [36893488147419103288, 3]) rfl rfl rfl (by decide) (Nat.le_of_ble_eq_true rfl) (Nat.le_of_ble_eq_true rfl) rfl (Nat.le_of_ble_eq_true rfl) rfl (dkT_109 T4 (by decide) e29) (fun T31 => ?_)
      refine wq_iconst rfl rfl ?_
      exact wq_iret rfl (wm_zlt (by decide)) (Nat.blt_eq.mpr (by decide)) (wkOZ h T31 (by decide))
  · replace h := od_pos h h5
    refine wq_aload_n rfl rfl rfl ?_
    refine wq_iconst rfl rfl ?_
    obtain ⟨y32, e33, h⟩ := od_bindE h
    refine wd_virtN (q := 56) (y := y32) (as := [36893488147419103288, 2]) rfl rfl rfl (by decide) (Nat.le_of_ble_eq_true rfl) (Nat.le_of_ble_eq_true rfl) rfl (Nat.le_of_ble_eq_true rfl) rfl (dkT_109 T4 (by decide) e33) (fun T35 => ?_)
    refine wq_iconst rfl rfl ?_
    exact wq_iret rfl (wm_zlt (by decide)) (Nat.blt_eq.mpr (by decide)) (wkOZ h T35 (by decide))
def dk_149_52 (R : dk_Rt) (n : Nat) (F : wq_F) (v1 : Nat) (v3 : Nat) (v4 : Nat) (s0 : Nat) : Option (Nat × wq_F) :=
  (dk_78 F s0 0 4294967295 v3).bind fun y1 =>
  (dk_163 y1.2 4294967295).bind fun y5 =>
  (R 148 [v4, (v1 + 1) % 4294967296] y5.2).bind fun y9 =>
  (dk_159 n y9.2 y1.1).bind fun y13 =>
  some (0, y13.2)
theorem dk_149_52T {d n : Nat} {R : dk_Rt} (hR : dk_spec (d + 12) R) : ∀ ⦃u2 : Nat⦄ ⦃F : wq_F⦄ (hT : xm_T F) ⦃v1 : Nat⦄ (hv1 : v1 < 4294967296) ⦃v3 : Nat⦄ (hv3 : v3 < 4294967296) ⦃v4 : Nat⦄ (hv4 : v4 < 4294967296) ⦃s0 : Nat⦄ (hs0 : s0 < 4294967296) (hu2 : ev_isL u2 = false) ⦃x : Nat × wq_F⦄ (h : dk_149_52 R n F v1 v3 v4 s0 = some x), wq (wq_cf (d + 12)) (ev_un al_mX4_operation.2.2.2.2) none 52 [36893488147419103288, v1, u2, v3, v4, 73786976294838206464] [s0, 36893488147419103288] xm_sh F 0 0 (wkN xm_T xm_sh x) := by
  intro u2 F hT v1 hv1 v3 hv3 v4 hv4 s0 hs0 hu2 x h
  unfold dk_149_52 at h
  refine wq_iconst rfl rfl ?_
  refine wq_iconst rfl rfl ?_
  refine wq_iload_n rfl rfl hv3 ?_
  obtain ⟨y1, e2, h⟩ := od_bindE h
  refine wd_virtI (q := 56) (y := y1) (as := [36893488147419103288, s0, 0, 4294967295, v3]) rfl rfl rfl (by decide) (Nat.le_of_ble_eq_true rfl) (Nat.le_of_ble_eq_true rfl) rfl (Nat.le_of_ble_eq_true rfl) rfl (dkT_78 hT hs0 (wm_zlt (by decide)) (by decide) hv3 e2) (fun p3 T4 => ?_)
  refine wq_istore rfl p3 (Nat.le_of_ble_eq_true rfl) (Or.inr ⟨_, rfl, (wq_notL hv4)⟩) (L' := [36893488147419103288, v1, u2, v3, v4, y1.1]) rfl ?_
  refine wq_aload_n rfl rfl rfl ?_
  refine xm_getR (v := 36893488147419103291) (q := 56) rfl rfl (by decide) (by decide) (T4.r (k := 56) 3 58 rfl (by decide) rfl) ?_
  refine wq_iconst rfl rfl ?_
  obtain ⟨y5, e6, h⟩ := od_bindE h
  refine wd_virtN (q := 59) (y := y5) (as := [36893488147419103291, 4294967295]) rfl rfl rfl (by decide) (Nat.le_of_ble_eq_true rfl) (Nat.le_of_ble_eq_true rfl) rfl (Nat.le_of_ble_eq_true rfl) rfl (dkT_163 T4 (by decide) e6) (fun T8 => ?_)
  refine wq_aload_n rfl rfl rfl ?_
  refine wq_iload rfl rfl hv4 ?_
  refine wq_iload_n rfl rfl hv1 ?_
  refine wq_iconst rfl rfl ?_
  refine wq_iaddZ rfl hv1 (wm_zlt (by decide)) (z := (v1 + 1) % 4294967296) rfl ?_
  obtain ⟨y9, e10, h⟩ := od_bindE h
  refine wd_virtZ (q := 56) (y := y9) (as := [36893488147419103288, v4, (v1 + 1) % 4294967296]) rfl rfl rfl (by decide) (Nat.le_of_ble_eq_true rfl) (Nat.le_of_ble_eq_true rfl) rfl (Nat.le_of_ble_eq_true rfl) rfl (dk_s148 hR T8 hv4 (Nat.mod_lt _ (by decide)) e10) (fun p11 T12 => ?_)
  refine wq_pop rfl (wq_notL (wm_zlt p11)) ?_
  refine wq_aload_n rfl rfl rfl ?_
  refine xm_getR (v := 36893488147419103243) (q := 56) rfl rfl (by decide) (by decide) (T12.r (k := 56) 1 10 rfl (by decide) rfl) ?_
  refine wq_iload rfl rfl p3 ?_
  obtain ⟨y13, e14, h⟩ := od_bindE h
  refine wd_virtN (q := 11) (y := y13) (as := [36893488147419103243, y1.1]) rfl rfl rfl (by decide) (Nat.le_of_ble_eq_true rfl) (Nat.le_of_ble_eq_true rfl) rfl (Nat.le_of_ble_eq_true rfl) rfl (dkT_159 T12 p3 e14) (fun T16 => ?_)
  exact wq_ret rfl (wkON h T16)
def dk_149_105 (R : dk_Rt) (n : Nat) (F : wq_F) (v1 : Nat) (v2 : Nat) (v3 : Nat) (v4 : Nat) (s0 : Nat) : Option (Nat × wq_F) :=
  (R 148 [s0, (v1 + 1) % 4294967296] F).bind fun y1 =>
  (dk_147 y1.2 v2).bind fun y5 =>
  (dk_112 y5.2 y5.1 0 v3 4294967295).bind fun y9 =>
  if v2 = 67 then
    (dk_112 y9.2 25 0 v3 0).bind fun y19 =>
    some (0, y19.2)
  else
    if v4 = 3 then
      (dk_112 y9.2 26 0 v3 0).bind fun y15 =>
      some (0, y15.2)
    else
      some (0, y9.2)
theorem dk_149_105T {d n : Nat} {R : dk_Rt} (hR : dk_spec (d + 12) R) : ∀ ⦃F : wq_F⦄ (hT : xm_T F) ⦃v1 : Nat⦄ (hv1 : v1 < 4294967296) ⦃v2 : Nat⦄ (hv2 : v2 < 4294967296) ⦃v3 : Nat⦄ (hv3 : v3 < 4294967296) ⦃v4 : Nat⦄ (hv4 : v4 < 4294967296) ⦃s0 : Nat⦄ (hs0 : s0 < 4294967296) ⦃x : Nat × wq_F⦄ (h : dk_149_105 R n F v1 v2 v3 v4 s0 = some x), wq (wq_cf (d + 12)) (ev_un al_mX4_operation.2.2.2.2) none 105 [36893488147419103288, v1, v2, v3, v4, 73786976294838206464] [s0, 36893488147419103288] xm_sh F 0 0 (wkN xm_T xm_sh x) := by
  intro F hT v1 hv1 v2 hv2 v3 hv3 v4 hv4 s0 hs0 x h
  unfold dk_149_105 at h
  refine wq_iload_n rfl rfl hv1 ?_
  refine wq_iconst rfl rfl ?_
  refine wq_iaddZ rfl hv1 (wm_zlt (by decide)) (z := (v1 + 1) % 4294967296) rfl ?_
  obtain ⟨y1, e2, h⟩ := od_bindE h
  refine wd_virtZ (q := 56) (y := y1) (as := [36893488147419103288, s0, (v1 + 1) % 4294967296]) rfl rfl rfl (by decide) (Nat.le_of_ble_eq_true rfl) (Nat.le_of_ble_eq_true rfl) rfl (Nat.le_of_ble_eq_true rfl) rfl (dk_s148 hR hT hs0 (Nat.mod_lt _ (by decide)) e2) (fun p3 T4 => ?_)
  refine wq_pop rfl (wq_notL (wm_zlt p3)) ?_
  refine wq_aload_n rfl rfl rfl ?_
  refine wq_iload_n rfl rfl hv2 ?_
  obtain ⟨y5, e6, h⟩ := od_bindE h
  refine wd_statI (y := y5) (as := [v2]) rfl (by decide) (Nat.le_of_ble_eq_true rfl) rfl (Nat.le_of_ble_eq_true rfl) rfl (dkT_147 T4 hv2 e6) (fun p7 T8 => ?_)
  refine wq_iconst rfl rfl ?_
  refine wq_iload_n rfl rfl hv3 ?_
  refine wq_iconst rfl rfl ?_
  obtain ⟨y9, e10, h⟩ := od_bindE h
  refine wd_virtN (q := 56) (y := y9) (as := [36893488147419103288, y5.1, 0, v3, 4294967295]) rfl rfl rfl (by decide) (Nat.le_of_ble_eq_true rfl) (Nat.le_of_ble_eq_true rfl) rfl (Nat.le_of_ble_eq_true rfl) rfl (dkT_112 T8 p7 (wm_zlt (by decide)) hv3 (by decide) e10) (fun T12 => ?_)
  refine wq_iload_n rfl rfl hv2 ?_
  refine wq_bipush rfl rfl ?_
  refine wq_ic_ne rfl rfl hv2 (by decide) (fun h13 => ?_) (fun h13 => ?_)
  · replace h := od_neg h h13
    refine wq_iload rfl rfl hv4 ?_
    refine wq_iconst rfl rfl ?_
    refine wq_ic_ne rfl rfl hv4 (by decide) (fun h14 => ?_) (fun h14 => ?_)
    · replace h := od_neg h h14
      exact wq_ret rfl (wkON h T12)
    · replace h := od_pos h h14
      refine wq_aload_n rfl rfl rfl ?_
      refine wq_bipush rfl rfl ?_
      refine wq_iconst rfl rfl ?_
      refine wq_iload_n rfl rfl hv3 ?_
      refine wq_iconst rfl rfl ?_
      obtain ⟨y15, e16, h⟩ := od_bindE h
      refine wd_virtN (q := 56) (y := y15) (as := [36893488147419103288, 26, 0, v3, 0]) rfl rfl rfl (by decide) (Nat.le_of_ble_eq_true rfl) (Nat.le_of_ble_eq_true rfl) rfl (Nat.le_of_ble_eq_true rfl) rfl (dkT_112 T12 (by decide) (wm_zlt (by decide)) hv3 (wm_zlt (by decide)) e16) (fun T18 => ?_)
      exact wq_ret rfl (wkON h T18)
  · replace h := od_pos h h13
    refine wq_aload_n rfl rfl rfl ?_
    refine wq_bipush rfl rfl ?_
    refine wq_iconst rfl rfl ?_
    refine wq_iload_n rfl rfl hv3 ?_
    refine wq_iconst rfl rfl ?_
    obtain ⟨y19, e20, h⟩ := od_bindE h
    refine wd_virtN (q := 56) (y := y19) (as := [36893488147419103288, 25, 0, v3, 0]) rfl rfl rfl (by decide) (Nat.le_of_ble_eq_true rfl) (Nat.le_of_ble_eq_true rfl) rfl (Nat.le_of_ble_eq_true rfl) rfl (dkT_112 T12 (by decide) (wm_zlt (by decide)) hv3 (wm_zlt (by decide)) e20) (fun T22 => ?_)
    refine wq_goto rfl rfl ?_
    exact wq_ret rfl (wkON h T22)
/-- X4_operation -/
def dk_149 (R : dk_Rt) (n : Nat) (F : wq_F) (a0 : Nat) : Option (Nat × wq_F) :=
  (dk_145 F).bind fun y1 =>
  (dk_77 n y1.2).bind fun y5 =>
  if (F 57 4) = 10 then
    if (F 57 4) = 10 then
      dk_149_52 R n y5.2 a0 (F 57 6) y1.1 23
    else
      dk_149_52 R n y5.2 a0 (F 57 6) y1.1 24
  else
    if (F 57 4) = 24 then
      if (F 57 4) = 10 then
        dk_149_52 R n y5.2 a0 (F 57 6) y1.1 23
      else
        dk_149_52 R n y5.2 a0 (F 57 6) y1.1 24
    else
      if y1.1 = 8 then
        od_let ((y1.1 + (4294967296 - 1)) % 4294967296) fun y13 =>
        dk_149_105 R n y5.2 a0 (F 57 4) (F 57 6) y1.1 y13
      else
        dk_149_105 R n y5.2 a0 (F 57 4) (F 57 6) y1.1 y1.1
theorem dkT_149 {d n : Nat} {R : dk_Rt} (hR : dk_spec (d + 12) R) {F : wq_F} (hT : xm_T F) {a0 : Nat} (ha0 : a0 < 4294967296) {x : Nat × wq_F} (h : dk_149 R n F a0 = some x) : mq (d + 12 + 1) 149 [36893488147419103288, a0] xm_sh F (wkN xm_T xm_sh x) := by
  have e : ev_ent [36893488147419103288, a0] = [36893488147419103288, a0] := by
    show 36893488147419103288 :: ev_ent [a0] = _
    rw [wm_entI ha0]
    rfl
  refine mq_of (maxL := 6) (rt := none) (code := (ev_un al_mX4_operation.2.2.2.2)) (L := [36893488147419103288, a0, 73786976294838206464, 73786976294838206464, 73786976294838206464, 73786976294838206464]) rfl (by rw [e]; exact Nat.le_of_ble_eq_true rfl) (by rw [e]; rfl) ?_
  unfold dk_149 at h
  refine wq_aload_n rfl rfl rfl ?_
  refine xm_getR (v := 36893488147419103289) (q := 56) rfl rfl (by decide) (by decide) (hT.r (k := 56) 0 56 rfl (by decide) rfl) ?_
  refine xm_getI (q := 57) rfl rfl (by decide) (by decide) ?_
  refine wq_istore_n rfl (hT.i (k := 57) 4 rfl (by decide) rfl) (Nat.le_of_ble_eq_true rfl) (Or.inr ⟨_, rfl, (wq_notL ha0)⟩) (L' := [36893488147419103288, a0, F 57 4, 73786976294838206464, 73786976294838206464, 73786976294838206464]) rfl ?_
  refine wq_aload_n rfl rfl rfl ?_
  refine xm_getR (v := 36893488147419103289) (q := 56) rfl rfl (by decide) (by decide) (hT.r (k := 56) 0 56 rfl (by decide) rfl) ?_
  refine xm_getI (q := 57) rfl rfl (by decide) (by decide) ?_
  refine wq_istore_n rfl (hT.i (k := 57) 6 rfl (by decide) rfl) (Nat.le_of_ble_eq_true rfl) (Or.inr ⟨_, rfl, (wq_notL (hT.i (k := 57) 4 rfl (by decide) rfl))⟩) (L' := [36893488147419103288, a0, F 57 4, F 57 6, 73786976294838206464, 73786976294838206464]) rfl ?_
  refine wq_aload_n rfl rfl rfl ?_
  obtain ⟨y1, e2, h⟩ := od_bindE h
  refine wd_virtI (q := 56) (y := y1) (as := [36893488147419103288]) rfl rfl rfl (by decide) (Nat.le_of_ble_eq_true rfl) (Nat.le_of_ble_eq_true rfl) rfl (Nat.le_of_ble_eq_true rfl) rfl (dkT_145 hT e2) (fun p3 T4 => ?_)
  refine wq_istore rfl p3 (Nat.le_of_ble_eq_true rfl) (Or.inr ⟨_, rfl, (wq_notL (hT.i (k := 57) 6 rfl (by decide) rfl))⟩) (L' := [36893488147419103288, a0, F 57 4, F 57 6, y1.1, 73786976294838206464]) rfl ?_
  refine wq_aload_n rfl rfl rfl ?_
  obtain ⟨y5, e6, h⟩ := od_bindE h
  refine wd_virtN (q := 56) (y := y5) (as := [36893488147419103288]) rfl rfl rfl (by decide) (Nat.le_of_ble_eq_true rfl) (Nat.le_of_ble_eq_true rfl) rfl (Nat.le_of_ble_eq_true rfl) rfl (dkT_77 T4 e6) (fun T8 => ?_)
  refine wq_iload_n rfl rfl (hT.i (k := 57) 4 rfl (by decide) rfl) ?_
  refine wq_bipush rfl rfl ?_
  refine wq_ic_eq rfl rfl (hT.i (k := 57) 4 rfl (by decide) rfl) (by decide) (fun h9 => ?_) (fun h9 => ?_)
  · replace h := od_pos h h9
    refine wq_aload_n rfl rfl rfl ?_
    refine wq_iload_n rfl rfl (hT.i (k := 57) 4 rfl (by decide) rfl) ?_
    refine wq_bipush rfl rfl ?_
    refine wq_ic_ne rfl rfl (hT.i (k := 57) 4 rfl (by decide) rfl) (by decide) (fun h10 => ?_) (fun h10 => ?_)
    · replace h := od_neg h h10
      refine wq_bipush rfl rfl ?_
      exact dk_149_52T hR T8 ha0 (hT.i (k := 57) 6 rfl (by decide) rfl) p3 (by decide) (wq_notL (hT.i (k := 57) 4 rfl (by decide) rfl)) h
    · replace h := od_pos h h10
      refine wq_bipush rfl rfl ?_
      refine wq_goto rfl rfl ?_
      exact dk_149_52T hR T8 ha0 (hT.i (k := 57) 6 rfl (by decide) rfl) p3 (by decide) (wq_notL (hT.i (k := 57) 4 rfl (by decide) rfl)) h
  · replace h := od_neg h h9
    refine wq_iload_n rfl rfl (hT.i (k := 57) 4 rfl (by decide) rfl) ?_
    refine wq_bipush rfl rfl ?_
    refine wq_ic_ne rfl rfl (hT.i (k := 57) 4 rfl (by decide) rfl) (by decide) (fun h11 => ?_) (fun h11 => ?_)
    · replace h := od_neg h h11
      refine wq_aload_n rfl rfl rfl ?_
      refine wq_iload rfl rfl p3 ?_
      refine wq_bipush rfl rfl ?_
      refine wq_ic_ne rfl rfl p3 (by decide) (fun h12 => ?_) (fun h12 => ?_)
      · replace h := od_neg h h12
        refine wq_iload rfl rfl p3 ?_
        exact dk_149_105T hR T8 ha0 (hT.i (k := 57) 4 rfl (by decide) rfl) (hT.i (k := 57) 6 rfl (by decide) rfl) p3 p3 h
      · replace h := od_pos h h12
        refine wq_iload rfl rfl p3 ?_
        refine wq_iconst rfl rfl ?_
        refine wq_isubZ rfl p3 (wm_zlt (by decide)) (z := (y1.1 + (4294967296 - 1)) % 4294967296) rfl ?_
        obtain ⟨y13, e14, h⟩ := od_letE h
        refine wq_top e14.symm ?_
        have p15 : y13 < 4294967296 := wd_lt e14 (Nat.mod_lt _ (by decide))
        refine wq_goto rfl rfl ?_
        exact dk_149_105T hR T8 ha0 (hT.i (k := 57) 4 rfl (by decide) rfl) (hT.i (k := 57) 6 rfl (by decide) rfl) p3 p15 h
    · replace h := od_pos h h11
      refine wq_aload_n rfl rfl rfl ?_
      refine wq_iload_n rfl rfl (hT.i (k := 57) 4 rfl (by decide) rfl) ?_
      refine wq_bipush rfl rfl ?_
      refine wq_ic_ne rfl rfl (hT.i (k := 57) 4 rfl (by decide) rfl) (by decide) (fun h16 => ?_) (fun h16 => ?_)
      · replace h := od_neg h h16
        refine wq_bipush rfl rfl ?_
        exact dk_149_52T hR T8 ha0 (hT.i (k := 57) 6 rfl (by decide) rfl) p3 (by decide) (wq_notL (hT.i (k := 57) 4 rfl (by decide) rfl)) h
      · replace h := od_pos h h16
        refine wq_bipush rfl rfl ?_
        refine wq_goto rfl rfl ?_
        exact dk_149_52T hR T8 ha0 (hT.i (k := 57) 6 rfl (by decide) rfl) p3 (by decide) (wq_notL (hT.i (k := 57) 4 rfl (by decide) rfl)) h
def dk_150_191 (R : dk_Rt) (n : Nat) (F : wq_F) (v2 : Nat) : Option (Nat × wq_F) :=
  (dk_77 n F).bind fun y1 =>
  (dk_78 y1.2 17 0 1 v2).bind fun y5 =>
  (dk_163 y5.2 1).bind fun y9 =>
  some (1, y9.2)
theorem dk_150_191T {d n : Nat} {R : dk_Rt} (hR : dk_spec (d + 12) R) : ∀ ⦃u1 : Nat⦄ ⦃F : wq_F⦄ (hT : xm_T F) ⦃v2 : Nat⦄ (hv2 : v2 < 4294967296) (hu1 : ev_isL u1 = false) ⦃x : Nat × wq_F⦄ (h : dk_150_191 R n F v2 = some x), wq (wq_cf (d + 12)) (ev_un al_mX4_operand.2.2.2.2) (some .boolean) 191 [36893488147419103288, u1, v2, 73786976294838206464] [] xm_sh F 0 0 (wkZ xm_T xm_sh x) := by
  intro u1 F hT v2 hv2 hu1 x h
  unfold dk_150_191 at h
  refine wq_aload_n rfl rfl rfl ?_
  obtain ⟨y1, e2, h⟩ := od_bindE h
  refine wd_virtN (q := 56) (y := y1) (as := [36893488147419103288]) rfl rfl rfl (by decide) (Nat.le_of_ble_eq_true rfl) (Nat.le_of_ble_eq_true rfl) rfl (Nat.le_of_ble_eq_true rfl) rfl (dkT_77 hT e2) (fun T4 => ?_)
  refine wq_aload_n rfl rfl rfl ?_
  refine wq_bipush rfl rfl ?_
  refine wq_iconst rfl rfl ?_
  refine wq_iconst rfl rfl ?_
  refine wq_iload_n rfl rfl hv2 ?_
  obtain ⟨y5, e6, h⟩ := od_bindE h
  refine wd_virtI (q := 56) (y := y5) (as := [36893488147419103288, 17, 0, 1, v2]) rfl rfl rfl (by decide) (Nat.le_of_ble_eq_true rfl) (Nat.le_of_ble_eq_true rfl) rfl (Nat.le_of_ble_eq_true rfl) rfl (dkT_78 T4 (by decide) (wm_zlt (by decide)) (wm_zlt (by decide)) hv2 e6) (fun p7 T8 => ?_)
  refine wq_pop rfl (wq_notL p7) ?_
  refine wq_aload_n rfl rfl rfl ?_
  refine xm_getR (v := 36893488147419103291) (q := 56) rfl rfl (by decide) (by decide) (T8.r (k := 56) 3 58 rfl (by decide) rfl) ?_
  refine wq_iconst rfl rfl ?_
  obtain ⟨y9, e10, h⟩ := od_bindE h
  refine wd_virtN (q := 59) (y := y9) (as := [36893488147419103291, 1]) rfl rfl rfl (by decide) (Nat.le_of_ble_eq_true rfl) (Nat.le_of_ble_eq_true rfl) rfl (Nat.le_of_ble_eq_true rfl) rfl (dkT_163 T8 (wm_zlt (by decide)) e10) (fun T12 => ?_)
  refine wq_iconst rfl rfl ?_
  exact wq_iret rfl (wm_zlt (by decide)) (Nat.blt_eq.mpr (by decide)) (wkOZ h T12 (by decide))
/-- X4_operand -/
def dk_150 (R : dk_Rt) (n : Nat) (F : wq_F) (a0 : Nat) : Option (Nat × wq_F) :=
  od_let (F 57 4) fun y1 =>
  if y1 = 3 then
    (dk_157 F (F 57 8)).bind fun y5 =>
    (dk_112 y5.2 3 y5.1 (F 57 6) 1).bind fun y9 =>
    (dk_77 n y9.2).bind fun y13 =>
    some (0, y13.2)
  else if y1 = 4 then
    (dk_112 F 4 (ev_oL2i (F 57 8)) (F 57 6) 1).bind fun y18 =>
    (dk_77 n y18.2).bind fun y22 =>
    some (0, y22.2)
  else if y1 = 16 then
    if (F 57 4) = 28 then
      (dk_112 F 2 1 (F 57 6) 1).bind fun y36 =>
      (dk_77 n y36.2).bind fun y40 =>
      some (0, y40.2)
    else
      (dk_112 F 2 0 (F 57 6) 1).bind fun y28 =>
      (dk_77 n y28.2).bind fun y32 =>
      some (0, y32.2)
  else if y1 = 18 then
    (dk_77 n F).bind fun y45 =>
    (R 155 [a0, 0] y45.2).bind fun y49 =>
    some (0, y49.2)
  else if y1 = 22 then
    (dk_112 F 1 1 (F 57 6) 1).bind fun y54 =>
    (dk_77 n y54.2).bind fun y58 =>
    some (0, y58.2)
  else if y1 = 28 then
    if (F 57 4) = 28 then
      (dk_112 F 2 1 (F 57 6) 1).bind fun y72 =>
      (dk_77 n y72.2).bind fun y76 =>
      some (0, y76.2)
    else
      (dk_112 F 2 0 (F 57 6) 1).bind fun y64 =>
      (dk_77 n y64.2).bind fun y68 =>
      some (0, y68.2)
  else if y1 = 53 then
    (R 151 [a0] F).bind fun y81 =>
    some (0, y81.2)
  else if y1 = 65 then
    (dk_161 F).bind fun y86 =>
    od_g (y86.1 < 50) <|
    if (y86.2 22 y86.1) = 0 then
      (dk_109 y86.2 4).bind fun y92 =>
      dk_150_191 R n y92.2 (F 57 6)
    else
      dk_150_191 R n y86.2 (F 57 6)
  else 
  (R 137 [a0] F).bind fun y96 =>
  if (y96.2 56 7) = 4294967294 then
    (dk_136 y96.2).bind fun y105 =>
    some (1, y105.2)
  else
    (dk_136 y96.2).bind fun y101 =>
    some (0, y101.2)
theorem dkT_150 {d n : Nat} {R : dk_Rt} (hR : dk_spec (d + 12) R) {F : wq_F} (hT : xm_T F) {a0 : Nat} (ha0 : a0 < 4294967296) {x : Nat × wq_F} (h : dk_150 R n F a0 = some x) : mq (d + 12 + 1) 150 [36893488147419103288, a0] xm_sh F (wkZ xm_T xm_sh x) := by
  have e : ev_ent [36893488147419103288, a0] = [36893488147419103288, a0] := by
    show 36893488147419103288 :: ev_ent [a0] = _
    rw [wm_entI ha0]
    rfl
  refine mq_of (maxL := 4) (rt := (some .boolean)) (code := (ev_un al_mX4_operand.2.2.2.2)) (L := [36893488147419103288, a0, 73786976294838206464, 73786976294838206464]) rfl (by rw [e]; exact Nat.le_of_ble_eq_true rfl) (by rw [e]; rfl) ?_
  unfold dk_150 at h
  refine wq_aload_n rfl rfl rfl ?_
  refine xm_getR (v := 36893488147419103289) (q := 56) rfl rfl (by decide) (by decide) (hT.r (k := 56) 0 56 rfl (by decide) rfl) ?_
  refine xm_getI (q := 57) rfl rfl (by decide) (by decide) ?_
  refine wq_istore_n rfl (hT.i (k := 57) 6 rfl (by decide) rfl) (Nat.le_of_ble_eq_true rfl) (Or.inr ⟨_, rfl, (wq_notL ha0)⟩) (L' := [36893488147419103288, a0, F 57 6, 73786976294838206464]) rfl ?_
  refine wq_aload_n rfl rfl rfl ?_
  refine xm_getR (v := 36893488147419103289) (q := 56) rfl rfl (by decide) (by decide) (hT.r (k := 56) 0 56 rfl (by decide) rfl) ?_
  refine xm_getI (q := 57) rfl rfl (by decide) (by decide) ?_
  obtain ⟨y1, e2, h⟩ := od_letE h
  refine wq_top e2.symm ?_
  have p3 : y1 < 4294967296 := wd_lt e2 (hT.i (k := 57) 4 rfl (by decide) rfl)
  by_cases h4 : y1 = 3
  case pos =>
    replace h := od_pos h h4
    refine wq_top h4 ?_
    refine wq_lsw rfl (by decide) rfl (tgt := 126) rfl ?_
    refine wq_aload_n rfl rfl rfl ?_
    refine wq_iconst rfl rfl ?_
    refine wq_aload_n rfl rfl rfl ?_
    refine xm_getR (v := 36893488147419103243) (q := 56) rfl rfl (by decide) (by decide) (hT.r (k := 56) 1 10 rfl (by decide) rfl) ?_
    refine wq_aload_n rfl rfl rfl ?_
    refine xm_getR (v := 36893488147419103289) (q := 56) rfl rfl (by decide) (by decide) (hT.r (k := 56) 0 56 rfl (by decide) rfl) ?_
    refine xm_getI (q := 57) rfl rfl (by decide) (by decide) ?_
    obtain ⟨y5, e6, h⟩ := od_bindE h
    refine wd_virtI (q := 11) (y := y5) (as := [36893488147419103243, F 57 8]) rfl rfl rfl (by decide) (Nat.le_of_ble_eq_true rfl) (Nat.le_of_ble_eq_true rfl) rfl (Nat.le_of_ble_eq_true rfl) rfl (dkT_157 hT (hT.l (k := 57) 8 rfl (by decide) rfl) e6) (fun p7 T8 => ?_)
    refine wq_iload_n rfl rfl (hT.i (k := 57) 6 rfl (by decide) rfl) ?_
    refine wq_iconst rfl rfl ?_
    obtain ⟨y9, e10, h⟩ := od_bindE h
    refine wd_virtN (q := 56) (y := y9) (as := [36893488147419103288, 3, y5.1, F 57 6, 1]) rfl rfl rfl (by decide) (Nat.le_of_ble_eq_true rfl) (Nat.le_of_ble_eq_true rfl) rfl (Nat.le_of_ble_eq_true rfl) rfl (dkT_112 T8 (by decide) p7 (hT.i (k := 57) 6 rfl (by decide) rfl) (wm_zlt (by decide)) e10) (fun T12 => ?_)
    refine wq_goto rfl rfl ?_
    refine wq_aload_n rfl rfl rfl ?_
    obtain ⟨y13, e14, h⟩ := od_bindE h
    refine wd_virtN (q := 56) (y := y13) (as := [36893488147419103288]) rfl rfl rfl (by decide) (Nat.le_of_ble_eq_true rfl) (Nat.le_of_ble_eq_true rfl) rfl (Nat.le_of_ble_eq_true rfl) rfl (dkT_77 T12 e14) (fun T16 => ?_)
    refine wq_iconst rfl rfl ?_
    exact wq_iret rfl (wm_zlt (by decide)) (Nat.blt_eq.mpr (by decide)) (wkOZ h T16 (by decide))
  replace h := od_neg h h4
  by_cases h17 : y1 = 4
  case pos =>
    replace h := od_pos h h17
    refine wq_top h17 ?_
    refine wq_lsw rfl (by decide) rfl (tgt := 150) rfl ?_
    refine wq_aload_n rfl rfl rfl ?_
    refine wq_iconst rfl rfl ?_
    refine wq_aload_n rfl rfl rfl ?_
    refine xm_getR (v := 36893488147419103289) (q := 56) rfl rfl (by decide) (by decide) (hT.r (k := 56) 0 56 rfl (by decide) rfl) ?_
    refine xm_getI (q := 57) rfl rfl (by decide) (by decide) ?_
    refine wq_l2i rfl (hT.l (k := 57) 8 rfl (by decide) rfl) ?_
    refine wq_iload_n rfl rfl (hT.i (k := 57) 6 rfl (by decide) rfl) ?_
    refine wq_iconst rfl rfl ?_
    obtain ⟨y18, e19, h⟩ := od_bindE h
    refine wd_virtN (q := 56) (y := y18) (as := [36893488147419103288, 4, ev_oL2i (F 57 8), F 57 6, 1]) rfl rfl rfl (by decide) (Nat.le_of_ble_eq_true rfl) (Nat.le_of_ble_eq_true rfl) rfl (Nat.le_of_ble_eq_true rfl) rfl (dkT_112 hT (by decide) (Nat.mod_lt _ (by decide)) (hT.i (k := 57) 6 rfl (by decide) rfl) (wm_zlt (by decide)) e19) (fun T21 => ?_)
    refine wq_goto rfl rfl ?_
    refine wq_aload_n rfl rfl rfl ?_
    obtain ⟨y22, e23, h⟩ := od_bindE h
    refine wd_virtN (q := 56) (y := y22) (as := [36893488147419103288]) rfl rfl rfl (by decide) (Nat.le_of_ble_eq_true rfl) (Nat.le_of_ble_eq_true rfl) rfl (Nat.le_of_ble_eq_true rfl) rfl (dkT_77 T21 e23) (fun T25 => ?_)
    refine wq_iconst rfl rfl ?_
    exact wq_iret rfl (wm_zlt (by decide)) (Nat.blt_eq.mpr (by decide)) (wkOZ h T25 (by decide))
  replace h := od_neg h h17
  by_cases h26 : y1 = 16
  case pos =>
    replace h := od_pos h h26
    refine wq_top h26 ?_
    refine wq_lsw rfl (by decide) rfl (tgt := 99) rfl ?_
    refine wq_aload_n rfl rfl rfl ?_
    refine wq_iconst rfl rfl ?_
    refine wq_aload_n rfl rfl rfl ?_
    refine xm_getR (v := 36893488147419103289) (q := 56) rfl rfl (by decide) (by decide) (hT.r (k := 56) 0 56 rfl (by decide) rfl) ?_
    refine xm_getI (q := 57) rfl rfl (by decide) (by decide) ?_
    refine wq_bipush rfl rfl ?_
    refine wq_ic_ne rfl rfl (hT.i (k := 57) 4 rfl (by decide) rfl) (by decide) (fun h27 => ?_) (fun h27 => ?_)
    · replace h := od_neg h h27
      refine wq_iconst rfl rfl ?_
      refine wq_iload_n rfl rfl (hT.i (k := 57) 6 rfl (by decide) rfl) ?_
      refine wq_iconst rfl rfl ?_
      obtain ⟨y28, e29, h⟩ := od_bindE h
      refine wd_virtN (q := 56) (y := y28) (as := [36893488147419103288, 2, 0, F 57 6, 1]) rfl rfl rfl (by decide) (Nat.le_of_ble_eq_true rfl) (Nat.le_of_ble_eq_true rfl) rfl (Nat.le_of_ble_eq_true rfl) rfl (dkT_112 hT (by decide) (wm_zlt (by decide)) (hT.i (k := 57) 6 rfl (by decide) rfl) (wm_zlt (by decide)) e29) (fun T31 => ?_)
      refine wq_goto rfl rfl ?_
      refine wq_aload_n rfl rfl rfl ?_
      obtain ⟨y32, e33, h⟩ := od_bindE h
      refine wd_virtN (q := 56) (y := y32) (as := [36893488147419103288]) rfl rfl rfl (by decide) (Nat.le_of_ble_eq_true rfl) (Nat.le_of_ble_eq_true rfl) rfl (Nat.le_of_ble_eq_true rfl) rfl (dkT_77 T31 e33) (fun T35 => ?_)
      refine wq_iconst rfl rfl ?_
      exact wq_iret rfl (wm_zlt (by decide)) (Nat.blt_eq.mpr (by decide)) (wkOZ h T35 (by decide))
    · replace h := od_pos h h27
      refine wq_iconst rfl rfl ?_
      refine wq_goto rfl rfl ?_
      refine wq_iload_n rfl rfl (hT.i (k := 57) 6 rfl (by decide) rfl) ?_
      refine wq_iconst rfl rfl ?_
      obtain ⟨y36, e37, h⟩ := od_bindE h
      refine wd_virtN (q := 56) (y := y36) (as := [36893488147419103288, 2, 1, F 57 6, 1]) rfl rfl rfl (by decide) (Nat.le_of_ble_eq_true rfl) (Nat.le_of_ble_eq_true rfl) rfl (Nat.le_of_ble_eq_true rfl) rfl (dkT_112 hT (by decide) (wm_zlt (by decide)) (hT.i (k := 57) 6 rfl (by decide) rfl) (wm_zlt (by decide)) e37) (fun T39 => ?_)
      refine wq_goto rfl rfl ?_
      refine wq_aload_n rfl rfl rfl ?_
      obtain ⟨y40, e41, h⟩ := od_bindE h
      refine wd_virtN (q := 56) (y := y40) (as := [36893488147419103288]) rfl rfl rfl (by decide) (Nat.le_of_ble_eq_true rfl) (Nat.le_of_ble_eq_true rfl) rfl (Nat.le_of_ble_eq_true rfl) rfl (dkT_77 T39 e41) (fun T43 => ?_)
      refine wq_iconst rfl rfl ?_
      exact wq_iret rfl (wm_zlt (by decide)) (Nat.blt_eq.mpr (by decide)) (wkOZ h T43 (by decide))
  replace h := od_neg h h26
  by_cases h44 : y1 = 18
  case pos =>
    replace h := od_pos h h44
    refine wq_top h44 ?_
    refine wq_lsw rfl (by decide) rfl (tgt := 215) rfl ?_
    refine wq_aload_n rfl rfl rfl ?_
    obtain ⟨y45, e46, h⟩ := od_bindE h
    refine wd_virtN (q := 56) (y := y45) (as := [36893488147419103288]) rfl rfl rfl (by decide) (Nat.le_of_ble_eq_true rfl) (Nat.le_of_ble_eq_true rfl) rfl (Nat.le_of_ble_eq_true rfl) rfl (dkT_77 hT e46) (fun T48 => ?_)
    refine wq_aload_n rfl rfl rfl ?_
    refine wq_iload_n rfl rfl ha0 ?_
    refine wq_iconst rfl rfl ?_
    obtain ⟨y49, e50, h⟩ := od_bindE h
    refine wd_virtN (q := 56) (y := y49) (as := [36893488147419103288, a0, 0]) rfl rfl rfl (by decide) (Nat.le_of_ble_eq_true rfl) (Nat.le_of_ble_eq_true rfl) rfl (Nat.le_of_ble_eq_true rfl) rfl (dk_s155 hR T48 ha0 (by decide) e50) (fun T52 => ?_)
    refine wq_iconst rfl rfl ?_
    exact wq_iret rfl (wm_zlt (by decide)) (Nat.blt_eq.mpr (by decide)) (wkOZ h T52 (by decide))
  replace h := od_neg h h44
  by_cases h53 : y1 = 22
  case pos =>
    replace h := od_pos h h53
    refine wq_top h53 ?_
    refine wq_lsw rfl (by decide) rfl (tgt := 88) rfl ?_
    refine wq_aload_n rfl rfl rfl ?_
    refine wq_iconst rfl rfl ?_
    refine wq_iconst rfl rfl ?_
    refine wq_iload_n rfl rfl (hT.i (k := 57) 6 rfl (by decide) rfl) ?_
    refine wq_iconst rfl rfl ?_
    obtain ⟨y54, e55, h⟩ := od_bindE h
    refine wd_virtN (q := 56) (y := y54) (as := [36893488147419103288, 1, 1, F 57 6, 1]) rfl rfl rfl (by decide) (Nat.le_of_ble_eq_true rfl) (Nat.le_of_ble_eq_true rfl) rfl (Nat.le_of_ble_eq_true rfl) rfl (dkT_112 hT (wm_zlt (by decide)) (wm_zlt (by decide)) (hT.i (k := 57) 6 rfl (by decide) rfl) (wm_zlt (by decide)) e55) (fun T57 => ?_)
    refine wq_goto rfl rfl ?_
    refine wq_aload_n rfl rfl rfl ?_
    obtain ⟨y58, e59, h⟩ := od_bindE h
    refine wd_virtN (q := 56) (y := y58) (as := [36893488147419103288]) rfl rfl rfl (by decide) (Nat.le_of_ble_eq_true rfl) (Nat.le_of_ble_eq_true rfl) rfl (Nat.le_of_ble_eq_true rfl) rfl (dkT_77 T57 e59) (fun T61 => ?_)
    refine wq_iconst rfl rfl ?_
    exact wq_iret rfl (wm_zlt (by decide)) (Nat.blt_eq.mpr (by decide)) (wkOZ h T61 (by decide))
  replace h := od_neg h h53
  by_cases h62 : y1 = 28
  case pos =>
    replace h := od_pos h h62
    refine wq_top h62 ?_
    refine wq_lsw rfl (by decide) rfl (tgt := 99) rfl ?_
    refine wq_aload_n rfl rfl rfl ?_
    refine wq_iconst rfl rfl ?_
    refine wq_aload_n rfl rfl rfl ?_
    refine xm_getR (v := 36893488147419103289) (q := 56) rfl rfl (by decide) (by decide) (hT.r (k := 56) 0 56 rfl (by decide) rfl) ?_
    refine xm_getI (q := 57) rfl rfl (by decide) (by decide) ?_
    refine wq_bipush rfl rfl ?_
    refine wq_ic_ne rfl rfl (hT.i (k := 57) 4 rfl (by decide) rfl) (by decide) (fun h63 => ?_) (fun h63 => ?_)
    · replace h := od_neg h h63
      refine wq_iconst rfl rfl ?_
      refine wq_iload_n rfl rfl (hT.i (k := 57) 6 rfl (by decide) rfl) ?_
      refine wq_iconst rfl rfl ?_
      obtain ⟨y64, e65, h⟩ := od_bindE h
      refine wd_virtN (q := 56) (y := y64) (as := [36893488147419103288, 2, 0, F 57 6, 1]) rfl rfl rfl (by decide) (Nat.le_of_ble_eq_true rfl) (Nat.le_of_ble_eq_true rfl) rfl (Nat.le_of_ble_eq_true rfl) rfl (dkT_112 hT (by decide) (wm_zlt (by decide)) (hT.i (k := 57) 6 rfl (by decide) rfl) (wm_zlt (by decide)) e65) (fun T67 => ?_)
      refine wq_goto rfl rfl ?_
      refine wq_aload_n rfl rfl rfl ?_
      obtain ⟨y68, e69, h⟩ := od_bindE h
      refine wd_virtN (q := 56) (y := y68) (as := [36893488147419103288]) rfl rfl rfl (by decide) (Nat.le_of_ble_eq_true rfl) (Nat.le_of_ble_eq_true rfl) rfl (Nat.le_of_ble_eq_true rfl) rfl (dkT_77 T67 e69) (fun T71 => ?_)
      refine wq_iconst rfl rfl ?_
      exact wq_iret rfl (wm_zlt (by decide)) (Nat.blt_eq.mpr (by decide)) (wkOZ h T71 (by decide))
    · replace h := od_pos h h63
      refine wq_iconst rfl rfl ?_
      refine wq_goto rfl rfl ?_
      refine wq_iload_n rfl rfl (hT.i (k := 57) 6 rfl (by decide) rfl) ?_
      refine wq_iconst rfl rfl ?_
      obtain ⟨y72, e73, h⟩ := od_bindE h
      refine wd_virtN (q := 56) (y := y72) (as := [36893488147419103288, 2, 1, F 57 6, 1]) rfl rfl rfl (by decide) (Nat.le_of_ble_eq_true rfl) (Nat.le_of_ble_eq_true rfl) rfl (Nat.le_of_ble_eq_true rfl) rfl (dkT_112 hT (by decide) (wm_zlt (by decide)) (hT.i (k := 57) 6 rfl (by decide) rfl) (wm_zlt (by decide)) e73) (fun T75 => ?_)
      refine wq_goto rfl rfl ?_
      refine wq_aload_n rfl rfl rfl ?_
      obtain ⟨y76, e77, h⟩ := od_bindE h
      refine wd_virtN (q := 56) (y := y76) (as := [36893488147419103288]) rfl rfl rfl (by decide) (Nat.le_of_ble_eq_true rfl) (Nat.le_of_ble_eq_true rfl) rfl (Nat.le_of_ble_eq_true rfl) rfl (dkT_77 T75 e77) (fun T79 => ?_)
      refine wq_iconst rfl rfl ?_
      exact wq_iret rfl (wm_zlt (by decide)) (Nat.blt_eq.mpr (by decide)) (wkOZ h T79 (by decide))
  replace h := od_neg h h62
  by_cases h80 : y1 = 53
  case pos =>
    replace h := od_pos h h80
    refine wq_top h80 ?_
    refine wq_lsw rfl (by decide) rfl (tgt := 227) rfl ?_
    refine wq_aload_n rfl rfl rfl ?_
    refine wq_iload_n rfl rfl ha0 ?_
    obtain ⟨y81, e82, h⟩ := od_bindE h
    refine wd_virtN (q := 56) (y := y81) (as := [36893488147419103288, a0]) rfl rfl rfl (by decide) (Nat.le_of_ble_eq_true rfl) (Nat.le_of_ble_eq_true rfl) rfl (Nat.le_of_ble_eq_true rfl) rfl (dk_s151 hR hT ha0 e82) (fun T84 => ?_)
    refine wq_iconst rfl rfl ?_
    exact wq_iret rfl (wm_zlt (by decide)) (Nat.blt_eq.mpr (by decide)) (wkOZ h T84 (by decide))
  replace h := od_neg h h80
  by_cases h85 : y1 = 65
  case pos =>
    replace h := od_pos h h85
    refine wq_top h85 ?_
    refine wq_lsw rfl (by decide) rfl (tgt := 168) rfl ?_
    refine wq_aload_n rfl rfl rfl ?_
    refine xm_getR (v := 36893488147419103243) (q := 56) rfl rfl (by decide) (by decide) (hT.r (k := 56) 1 10 rfl (by decide) rfl) ?_
    refine xm_getR (v := 36893488147419103254) (q := 11) rfl rfl (by decide) (by decide) (hT.r (k := 11) 12 21 rfl (by decide) rfl) ?_
    refine wq_aload_n rfl rfl rfl ?_
    refine xm_getR (v := 36893488147419103291) (q := 56) rfl rfl (by decide) (by decide) (hT.r (k := 56) 3 58 rfl (by decide) rfl) ?_
    obtain ⟨y86, e87, h⟩ := od_bindE h
    refine wd_virtI (q := 59) (y := y86) (as := [36893488147419103291]) rfl rfl rfl (by decide) (Nat.le_of_ble_eq_true rfl) (Nat.le_of_ble_eq_true rfl) rfl (Nat.le_of_ble_eq_true rfl) rfl (dkT_161 hT e87) (fun p88 T89 => ?_)
    obtain ⟨g90, h⟩ := od_gE h
    refine wq_zaload (q := 22) (n := 50) rfl rfl (by decide) g90 (by decide) ?_
    refine wq_if_ne rfl rfl (wm_zlt (T89.az (k := 22) rfl g90)) (fun h91 => ?_) (fun h91 => ?_)
    · replace h := od_neg h h91
      exact dk_150_191T hR T89 (hT.i (k := 57) 6 rfl (by decide) rfl) (wq_notL ha0) h
    · replace h := od_pos h h91
      refine wq_aload_n rfl rfl rfl ?_
      refine wq_iconst rfl rfl ?_
      obtain ⟨y92, e93, h⟩ := od_bindE h
      refine wd_virtN (q := 56) (y := y92) (as := [36893488147419103288, 4]) rfl rfl rfl (by decide) (Nat.le_of_ble_eq_true rfl) (Nat.le_of_ble_eq_true rfl) rfl (Nat.le_of_ble_eq_true rfl) rfl (dkT_109 T89 (by decide) e93) (fun T95 => ?_)
      exact dk_150_191T hR T95 (hT.i (k := 57) 6 rfl (by decide) rfl) (wq_notL ha0) h
  replace h := od_neg h h85
  refine wq_lswD rfl p3 rfl (List.forall_mem_cons.mpr ⟨wq_siNe (v := 3) p3 (by decide) h4, (List.forall_mem_cons.mpr ⟨wq_siNe (v := 4) p3 (by decide) h17, (List.forall_mem_cons.mpr ⟨wq_siNe (v := 16) p3 (by decide) h26, (List.forall_mem_cons.mpr ⟨wq_siNe (v := 18) p3 (by decide) h44, (List.forall_mem_cons.mpr ⟨wq_siNe (v := 22) p3 (by decide) h53, (List.forall_mem_cons.mpr ⟨wq_siNe (v := 28) p3 (by decide) h62, (List.forall_mem_cons.mpr ⟨wq_siNe (v := 53) p3 (by decide) h80, (List.forall_mem_cons.mpr ⟨wq_siNe (v := 65) p3 (by decide) h85, (fun _ h => absurd h List.not_mem_nil)⟩)⟩)⟩)⟩)⟩)⟩)⟩)⟩) rfl (tgt := 234) rfl ?_
  refine wq_aload_n rfl rfl rfl ?_
  refine wq_iload_n rfl rfl ha0 ?_
  obtain ⟨y96, e97, h⟩ := od_bindE h
  refine wd_virtN (q := 56) (y := y96) (as := [36893488147419103288, a0]) rfl rfl rfl (by decide) (Nat.le_of_ble_eq_true rfl) (Nat.le_of_ble_eq_true rfl) rfl (Nat.le_of_ble_eq_true rfl) rfl (dk_s137 hR hT ha0 e97) (fun T99 => ?_)
  refine wq_aload_n rfl rfl rfl ?_
  refine xm_getI (q := 56) rfl rfl (by decide) (by decide) ?_
  refine wq_bipush rfl rfl ?_
  refine wq_ic_ne rfl rfl (T99.i (k := 56) 7 rfl (by decide) rfl) (by decide) (fun h100 => ?_) (fun h100 => ?_)
  · replace h := od_neg h h100
    refine wq_iconst rfl rfl ?_
    refine wq_istore_n rfl (wm_zlt (by decide)) (Nat.le_of_ble_eq_true rfl) (Or.inr ⟨_, rfl, (wq_notL (hT.i (k := 57) 6 rfl (by decide) rfl))⟩) (L' := [36893488147419103288, a0, F 57 6, 0]) rfl ?_
    refine wq_aload_n rfl rfl rfl ?_
    obtain ⟨y101, e102, h⟩ := od_bindE h
    refine wd_virtN (q := 56) (y := y101) (as := [36893488147419103288]) rfl rfl rfl (by decide) (Nat.le_of_ble_eq_true rfl) (Nat.le_of_ble_eq_true rfl) rfl (Nat.le_of_ble_eq_true rfl) rfl (dkT_136 T99 e102) (fun T104 => ?_)
    refine wq_iload_n rfl rfl (wm_zlt (by decide)) ?_
    exact wq_iret rfl (wm_zlt (by decide)) (Nat.blt_eq.mpr (by decide)) (wkOZ h T104 (by decide))
  · replace h := od_pos h h100
    refine wq_iconst rfl rfl ?_
    refine wq_goto rfl rfl ?_
    refine wq_istore_n rfl (wm_zlt (by decide)) (Nat.le_of_ble_eq_true rfl) (Or.inr ⟨_, rfl, (wq_notL (hT.i (k := 57) 6 rfl (by decide) rfl))⟩) (L' := [36893488147419103288, a0, F 57 6, 1]) rfl ?_
    refine wq_aload_n rfl rfl rfl ?_
    obtain ⟨y105, e106, h⟩ := od_bindE h
    refine wd_virtN (q := 56) (y := y105) (as := [36893488147419103288]) rfl rfl rfl (by decide) (Nat.le_of_ble_eq_true rfl) (Nat.le_of_ble_eq_true rfl) rfl (Nat.le_of_ble_eq_true rfl) rfl (dkT_136 T99 e106) (fun T108 => ?_)
    refine wq_iload_n rfl rfl (wm_zlt (by decide)) ?_
    exact wq_iret rfl (wm_zlt (by decide)) (Nat.blt_eq.mpr (by decide)) (wkOZ h T108 (by decide))
def dk_151_136 (R : dk_Rt) (n : Nat) (r32 : wq_F → Nat → Nat → Nat → Nat → Option (Nat × wq_F)) (F : wq_F) (v1 : Nat) (v2 : Nat) (v3 : Nat) (v4 : Nat) (s0 : Nat) : Option (Nat × wq_F) :=
  if s0 = 0 then
    od_let ((v3 + 1) % 4294967296) fun y2 =>
    (R 154 [v1, y2, v2] F).bind fun y5 =>
    od_let ((v4 + 1) % 4294967296) fun y9 =>
    r32 y5.2 v1 v2 y2 y9
  else
    (R 153 [v1] F).bind fun y12 =>
    (dk_152 n y12.2).bind fun y16 =>
    od_let ((v4 + 1) % 4294967296) fun y20 =>
    r32 y16.2 v1 v2 v3 y20
theorem dk_151_136T {d n : Nat} {R : dk_Rt} (hR : dk_spec (d + 12) R) {r32 : wq_F → Nat → Nat → Nat → Nat → Option (Nat × wq_F)} (hr32 : ∀ ⦃u5 : Nat⦄ ⦃F : wq_F⦄ (hT : xm_T F) ⦃v1 : Nat⦄ (hv1 : v1 < 4294967296) ⦃v2 : Nat⦄ (hv2 : v2 < 4294967296) ⦃v3 : Nat⦄ (hv3 : v3 < 4294967296) ⦃v4 : Nat⦄ (hv4 : v4 < 4294967296) (hu5 : ev_isL u5 = false) ⦃x : Nat × wq_F⦄ (h : r32 F v1 v2 v3 v4 = some x), wq (wq_cf (d + 12)) (ev_un al_mX4_table.2.2.2.2) none 32 [36893488147419103288, v1, v2, v3, v4, u5] [] xm_sh F 0 0 (wkN xm_T xm_sh x)) : ∀ ⦃u5 : Nat⦄ ⦃F : wq_F⦄ (hT : xm_T F) ⦃v1 : Nat⦄ (hv1 : v1 < 4294967296) ⦃v2 : Nat⦄ (hv2 : v2 < 4294967296) ⦃v3 : Nat⦄ (hv3 : v3 < 4294967296) ⦃v4 : Nat⦄ (hv4 : v4 < 4294967296) ⦃s0 : Nat⦄ (hs0 : s0 < 2) (hu5 : ev_isL u5 = false) ⦃x : Nat × wq_F⦄ (h : dk_151_136 R n r32 F v1 v2 v3 v4 s0 = some x), wq (wq_cf (d + 12)) (ev_un al_mX4_table.2.2.2.2) none 136 [36893488147419103288, v1, v2, v3, v4, u5] [s0] xm_sh F 0 0 (wkN xm_T xm_sh x) := by
  intro u5 F hT v1 hv1 v2 hv2 v3 hv3 v4 hv4 s0 hs0 hu5 x h
  unfold dk_151_136 at h
  refine wq_istore rfl (wm_zlt hs0) (Nat.le_of_ble_eq_true rfl) (Or.inr ⟨_, rfl, (wq_notL hv4)⟩) (L' := [36893488147419103288, v1, v2, v3, v4, s0]) rfl ?_
  refine wq_iload rfl rfl (wm_zlt hs0) ?_
  refine wq_if_eq rfl rfl (wm_zlt hs0) (fun h1 => ?_) (fun h1 => ?_)
  · replace h := od_pos h h1
    obtain ⟨y2, e3, h⟩ := od_letE h
    have p4 : y2 < 4294967296 := wd_lt e3 (Nat.mod_lt _ (by decide))
    refine wq_iincZ rfl rfl hv3 (Or.inr ⟨_, rfl, (wq_notL hv2)⟩) rfl (z := y2) e3.symm (L' := [36893488147419103288, v1, v2, y2, v4, s0]) rfl ?_
    refine wq_aload_n rfl rfl rfl ?_
    refine wq_iload_n rfl rfl hv1 ?_
    refine wq_iload_n rfl rfl p4 ?_
    refine wq_iload_n rfl rfl hv2 ?_
    obtain ⟨y5, e6, h⟩ := od_bindE h
    refine wd_virtN (q := 56) (y := y5) (as := [36893488147419103288, v1, y2, v2]) rfl rfl rfl (by decide) (Nat.le_of_ble_eq_true rfl) (Nat.le_of_ble_eq_true rfl) rfl (Nat.le_of_ble_eq_true rfl) rfl (dk_s154 hR hT hv1 p4 hv2 e6) (fun T8 => ?_)
    obtain ⟨y9, e10, h⟩ := od_letE h
    have p11 : y9 < 4294967296 := wd_lt e10 (Nat.mod_lt _ (by decide))
    refine wq_iincZ rfl rfl hv4 (Or.inr ⟨_, rfl, (wq_notL p4)⟩) rfl (z := y9) e10.symm (L' := [36893488147419103288, v1, v2, y2, y9, s0]) rfl ?_
    refine wq_goto rfl rfl ?_
    exact hr32 T8 hv1 hv2 p4 p11 (wq_notL (wm_zlt hs0)) h
  · replace h := od_neg h h1
    refine wq_aload_n rfl rfl rfl ?_
    refine wq_iload_n rfl rfl hv1 ?_
    obtain ⟨y12, e13, h⟩ := od_bindE h
    refine wd_virtN (q := 56) (y := y12) (as := [36893488147419103288, v1]) rfl rfl rfl (by decide) (Nat.le_of_ble_eq_true rfl) (Nat.le_of_ble_eq_true rfl) rfl (Nat.le_of_ble_eq_true rfl) rfl (dk_s153 hR hT hv1 e13) (fun T15 => ?_)
    refine wq_aload_n rfl rfl rfl ?_
    obtain ⟨y16, e17, h⟩ := od_bindE h
    refine wd_virtN (q := 56) (y := y16) (as := [36893488147419103288]) rfl rfl rfl (by decide) (Nat.le_of_ble_eq_true rfl) (Nat.le_of_ble_eq_true rfl) rfl (Nat.le_of_ble_eq_true rfl) rfl (dkT_152 T15 e17) (fun T19 => ?_)
    refine wq_goto rfl rfl ?_
    obtain ⟨y20, e21, h⟩ := od_letE h
    have p22 : y20 < 4294967296 := wd_lt e21 (Nat.mod_lt _ (by decide))
    refine wq_iincZ rfl rfl hv4 (Or.inr ⟨_, rfl, (wq_notL hv3)⟩) rfl (z := y20) e21.symm (L' := [36893488147419103288, v1, v2, v3, y20, s0]) rfl ?_
    refine wq_goto rfl rfl ?_
    exact hr32 T19 hv1 hv2 hv3 p22 (wq_notL (wm_zlt hs0)) h
def dk_151_98 (R : dk_Rt) (n : Nat) (r32 : wq_F → Nat → Nat → Nat → Nat → Option (Nat × wq_F)) (F : wq_F) (v1 : Nat) (v2 : Nat) (v3 : Nat) (v4 : Nat) : Option (Nat × wq_F) :=
  if (F 57 4) = 55 then
    dk_151_136 R n r32 F v1 v2 v3 v4 1
  else
    if (F 57 4) = 2 then
      (dk_185 F).bind fun y3 =>
      if y3.1 = 0 then
        dk_151_136 R n r32 y3.2 v1 v2 v3 v4 0
      else
        dk_151_136 R n r32 y3.2 v1 v2 v3 v4 1
    else
      dk_151_136 R n r32 F v1 v2 v3 v4 0
theorem dk_151_98T {d n : Nat} {R : dk_Rt} (hR : dk_spec (d + 12) R) {r32 : wq_F → Nat → Nat → Nat → Nat → Option (Nat × wq_F)} (hr32 : ∀ ⦃u5 : Nat⦄ ⦃F : wq_F⦄ (hT : xm_T F) ⦃v1 : Nat⦄ (hv1 : v1 < 4294967296) ⦃v2 : Nat⦄ (hv2 : v2 < 4294967296) ⦃v3 : Nat⦄ (hv3 : v3 < 4294967296) ⦃v4 : Nat⦄ (hv4 : v4 < 4294967296) (hu5 : ev_isL u5 = false) ⦃x : Nat × wq_F⦄ (h : r32 F v1 v2 v3 v4 = some x), wq (wq_cf (d + 12)) (ev_un al_mX4_table.2.2.2.2) none 32 [36893488147419103288, v1, v2, v3, v4, u5] [] xm_sh F 0 0 (wkN xm_T xm_sh x)) : ∀ ⦃u5 : Nat⦄ ⦃F : wq_F⦄ (hT : xm_T F) ⦃v1 : Nat⦄ (hv1 : v1 < 4294967296) ⦃v2 : Nat⦄ (hv2 : v2 < 4294967296) ⦃v3 : Nat⦄ (hv3 : v3 < 4294967296) ⦃v4 : Nat⦄ (hv4 : v4 < 4294967296) (hu5 : ev_isL u5 = false) ⦃x : Nat × wq_F⦄ (h : dk_151_98 R n r32 F v1 v2 v3 v4 = some x), wq (wq_cf (d + 12)) (ev_un al_mX4_table.2.2.2.2) none 98 [36893488147419103288, v1, v2, v3, v4, u5] [] xm_sh F 0 0 (wkN xm_T xm_sh x) := by
  intro u5 F hT v1 hv1 v2 hv2 v3 hv3 v4 hv4 hu5 x h
  unfold dk_151_98 at h
  refine wq_aload_n rfl rfl rfl ?_
  refine xm_getR (v := 36893488147419103289) (q := 56) rfl rfl (by decide) (by decide) (hT.r (k := 56) 0 56 rfl (by decide) rfl) ?_
  refine xm_getI (q := 57) rfl rfl (by decide) (by decide) ?_
  refine wq_bipush rfl rfl ?_
  refine wq_ic_eq rfl rfl (hT.i (k := 57) 4 rfl (by decide) rfl) (by decide) (fun h1 => ?_) (fun h1 => ?_)
  · replace h := od_pos h h1
    refine wq_iconst rfl rfl ?_
    refine wq_goto rfl rfl ?_
    exact dk_151_136T hR hr32 hT hv1 hv2 hv3 hv4 (by decide) hu5 h
  · replace h := od_neg h h1
    refine wq_aload_n rfl rfl rfl ?_
    refine xm_getR (v := 36893488147419103289) (q := 56) rfl rfl (by decide) (by decide) (hT.r (k := 56) 0 56 rfl (by decide) rfl) ?_
    refine xm_getI (q := 57) rfl rfl (by decide) (by decide) ?_
    refine wq_iconst rfl rfl ?_
    refine wq_ic_ne rfl rfl (hT.i (k := 57) 4 rfl (by decide) rfl) (by decide) (fun h2 => ?_) (fun h2 => ?_)
    · replace h := od_neg h h2
      refine wq_iconst rfl rfl ?_
      exact dk_151_136T hR hr32 hT hv1 hv2 hv3 hv4 (by decide) hu5 h
    · replace h := od_pos h h2
      refine wq_aload_n rfl rfl rfl ?_
      refine xm_getR (v := 36893488147419103289) (q := 56) rfl rfl (by decide) (by decide) (hT.r (k := 56) 0 56 rfl (by decide) rfl) ?_
      obtain ⟨y3, e4, h⟩ := od_bindE h
      refine wd_virtZ (q := 57) (y := y3) (as := [36893488147419103289]) rfl rfl rfl (by decide) (Nat.le_of_ble_eq_true rfl) (Nat.le_of_ble_eq_true rfl) rfl (Nat.le_of_ble_eq_true rfl) rfl (dkT_185 hT e4) (fun p5 T6 => ?_)
      refine wq_if_eq rfl rfl (wm_zlt p5) (fun h7 => ?_) (fun h7 => ?_)
      · replace h := od_pos h h7
        refine wq_iconst rfl rfl ?_
        exact dk_151_136T hR hr32 T6 hv1 hv2 hv3 hv4 (by decide) hu5 h
      · replace h := od_neg h h7
        refine wq_iconst rfl rfl ?_
        refine wq_goto rfl rfl ?_
        exact dk_151_136T hR hr32 T6 hv1 hv2 hv3 hv4 (by decide) hu5 h
def dk_151_78 (R : dk_Rt) (n : Nat) (r32 : wq_F → Nat → Nat → Nat → Nat → Option (Nat × wq_F)) (F : wq_F) (v1 : Nat) (v2 : Nat) (v3 : Nat) (v4 : Nat) : Option (Nat × wq_F) :=
  if v4 = 30 then
    (dk_109 F 3).bind fun y2 =>
    dk_151_98 R n r32 y2.2 v1 v2 v3 v4
  else
    if ev_s 20 < ev_s ((v1 + 1) % 4294967296) then
      (dk_109 F 3).bind fun y7 =>
      dk_151_98 R n r32 y7.2 v1 v2 v3 v4
    else
      dk_151_98 R n r32 F v1 v2 v3 v4
theorem dk_151_78T {d n : Nat} {R : dk_Rt} (hR : dk_spec (d + 12) R) {r32 : wq_F → Nat → Nat → Nat → Nat → Option (Nat × wq_F)} (hr32 : ∀ ⦃u5 : Nat⦄ ⦃F : wq_F⦄ (hT : xm_T F) ⦃v1 : Nat⦄ (hv1 : v1 < 4294967296) ⦃v2 : Nat⦄ (hv2 : v2 < 4294967296) ⦃v3 : Nat⦄ (hv3 : v3 < 4294967296) ⦃v4 : Nat⦄ (hv4 : v4 < 4294967296) (hu5 : ev_isL u5 = false) ⦃x : Nat × wq_F⦄ (h : r32 F v1 v2 v3 v4 = some x), wq (wq_cf (d + 12)) (ev_un al_mX4_table.2.2.2.2) none 32 [36893488147419103288, v1, v2, v3, v4, u5] [] xm_sh F 0 0 (wkN xm_T xm_sh x)) : ∀ ⦃u5 : Nat⦄ ⦃F : wq_F⦄ (hT : xm_T F) ⦃v1 : Nat⦄ (hv1 : v1 < 4294967296) ⦃v2 : Nat⦄ (hv2 : v2 < 4294967296) ⦃v3 : Nat⦄ (hv3 : v3 < 4294967296) ⦃v4 : Nat⦄ (hv4 : v4 < 4294967296) (hu5 : ev_isL u5 = false) ⦃x : Nat × wq_F⦄ (h : dk_151_78 R n r32 F v1 v2 v3 v4 = some x), wq (wq_cf (d + 12)) (ev_un al_mX4_table.2.2.2.2) none 78 [36893488147419103288, v1, v2, v3, v4, u5] [] xm_sh F 0 0 (wkN xm_T xm_sh x) := by
  intro u5 F hT v1 hv1 v2 hv2 v3 hv3 v4 hv4 hu5 x h
  unfold dk_151_78 at h
  refine wq_iload rfl rfl hv4 ?_
  refine wq_bipush rfl rfl ?_
  refine wq_ic_eq rfl rfl hv4 (by decide) (fun h1 => ?_) (fun h1 => ?_)
  · replace h := od_pos h h1
    refine wq_aload_n rfl rfl rfl ?_
    refine wq_iconst rfl rfl ?_
    obtain ⟨y2, e3, h⟩ := od_bindE h
    refine wd_virtN (q := 56) (y := y2) (as := [36893488147419103288, 3]) rfl rfl rfl (by decide) (Nat.le_of_ble_eq_true rfl) (Nat.le_of_ble_eq_true rfl) rfl (Nat.le_of_ble_eq_true rfl) rfl (dkT_109 hT (by decide) e3) (fun T5 => ?_)
    exact dk_151_98T hR hr32 T5 hv1 hv2 hv3 hv4 hu5 h
  · replace h := od_neg h h1
    refine wq_iload_n rfl rfl hv1 ?_
    refine wq_iconst rfl rfl ?_
    refine wq_iaddZ rfl hv1 (wm_zlt (by decide)) (z := (v1 + 1) % 4294967296) rfl ?_
    refine wq_bipush rfl rfl ?_
    refine wq_ic_le rfl rfl (Nat.mod_lt _ (by decide)) (by decide) (fun h6 => ?_) (fun h6 => ?_)
    · replace h := od_neg h (Nat.not_lt.mpr h6)
      exact dk_151_98T hR hr32 hT hv1 hv2 hv3 hv4 hu5 h
    · replace h := od_pos h h6
      refine wq_aload_n rfl rfl rfl ?_
      refine wq_iconst rfl rfl ?_
      obtain ⟨y7, e8, h⟩ := od_bindE h
      refine wd_virtN (q := 56) (y := y7) (as := [36893488147419103288, 3]) rfl rfl rfl (by decide) (Nat.le_of_ble_eq_true rfl) (Nat.le_of_ble_eq_true rfl) rfl (Nat.le_of_ble_eq_true rfl) rfl (dkT_109 hT (by decide) e8) (fun T10 => ?_)
      exact dk_151_98T hR hr32 T10 hv1 hv2 hv3 hv4 hu5 h
def dk_151_32b (R : dk_Rt) (n : Nat) (r32 : wq_F → Nat → Nat → Nat → Nat → Option (Nat × wq_F)) (F : wq_F) (v1 : Nat) (v2 : Nat) (v3 : Nat) (v4 : Nat) : Option (Nat × wq_F) :=
  if ev_s 30 < ev_s v4 then
    (dk_110 n F 54).bind fun y2 =>
    (dk_162 y2.2 ((v2 + 1) % 4294967296)).bind fun y6 =>
    some (0, y6.2)
  else
    if (F 57 4) = 54 then
      (dk_110 n F 54).bind fun y11 =>
      (dk_162 y11.2 ((v2 + 1) % 4294967296)).bind fun y15 =>
      some (0, y15.2)
    else
      if (F 57 4) = 55 then
        dk_151_78 R n r32 F v1 v2 v3 v4
      else
        (dk_114 F).bind fun y20 =>
        if y20.1 = 0 then
          (dk_109 y20.2 2).bind fun y25 =>
          dk_151_98 R n r32 y25.2 v1 v2 v3 v4
        else
          dk_151_78 R n r32 y20.2 v1 v2 v3 v4
theorem dk_151_32bT {d n : Nat} {R : dk_Rt} (hR : dk_spec (d + 12) R) {r32 : wq_F → Nat → Nat → Nat → Nat → Option (Nat × wq_F)} (hr32 : ∀ ⦃u5 : Nat⦄ ⦃F : wq_F⦄ (hT : xm_T F) ⦃v1 : Nat⦄ (hv1 : v1 < 4294967296) ⦃v2 : Nat⦄ (hv2 : v2 < 4294967296) ⦃v3 : Nat⦄ (hv3 : v3 < 4294967296) ⦃v4 : Nat⦄ (hv4 : v4 < 4294967296) (hu5 : ev_isL u5 = false) ⦃x : Nat × wq_F⦄ (h : r32 F v1 v2 v3 v4 = some x), wq (wq_cf (d + 12)) (ev_un al_mX4_table.2.2.2.2) none 32 [36893488147419103288, v1, v2, v3, v4, u5] [] xm_sh F 0 0 (wkN xm_T xm_sh x)) : ∀ ⦃u5 : Nat⦄ ⦃F : wq_F⦄ (hT : xm_T F) ⦃v1 : Nat⦄ (hv1 : v1 < 4294967296) ⦃v2 : Nat⦄ (hv2 : v2 < 4294967296) ⦃v3 : Nat⦄ (hv3 : v3 < 4294967296) ⦃v4 : Nat⦄ (hv4 : v4 < 4294967296) (hu5 : ev_isL u5 = false) ⦃x : Nat × wq_F⦄ (h : dk_151_32b R n r32 F v1 v2 v3 v4 = some x), wq (wq_cf (d + 12)) (ev_un al_mX4_table.2.2.2.2) none 32 [36893488147419103288, v1, v2, v3, v4, u5] [] xm_sh F 0 0 (wkN xm_T xm_sh x) := by
  intro u5 F hT v1 hv1 v2 hv2 v3 hv3 v4 hv4 hu5 x h
  unfold dk_151_32b at h
  refine wq_iload rfl rfl hv4 ?_
  refine wq_bipush rfl rfl ?_
  refine wq_ic_gt rfl rfl hv4 (by decide) (fun h1 => ?_) (fun h1 => ?_)
  · replace h := od_pos h h1
    refine wq_aload_n rfl rfl rfl ?_
    refine wq_bipush rfl rfl ?_
    obtain ⟨y2, e3, h⟩ := od_bindE h
    refine wd_virtN (q := 56) (y := y2) (as := [36893488147419103288, 54]) rfl rfl rfl (by decide) (Nat.le_of_ble_eq_true rfl) (Nat.le_of_ble_eq_true rfl) rfl (Nat.le_of_ble_eq_true rfl) rfl (dkT_110 hT (by decide) e3) (fun T5 => ?_)
    refine wq_aload_n rfl rfl rfl ?_
    refine xm_getR (v := 36893488147419103291) (q := 56) rfl rfl (by decide) (by decide) (T5.r (k := 56) 3 58 rfl (by decide) rfl) ?_
    refine wq_iload_n rfl rfl hv2 ?_
    refine wq_iconst rfl rfl ?_
    refine wq_iaddZ rfl hv2 (wm_zlt (by decide)) (z := (v2 + 1) % 4294967296) rfl ?_
    obtain ⟨y6, e7, h⟩ := od_bindE h
    refine wd_virtN (q := 59) (y := y6) (as := [36893488147419103291, (v2 + 1) % 4294967296]) rfl rfl rfl (by decide) (Nat.le_of_ble_eq_true rfl) (Nat.le_of_ble_eq_true rfl) rfl (Nat.le_of_ble_eq_true rfl) rfl (dkT_162 T5 (Nat.mod_lt _ (by decide)) e7) (fun T9 => ?_)
    exact wq_ret rfl (wkON h T9)
  · replace h := od_neg h (Nat.not_lt.mpr h1)
    refine wq_aload_n rfl rfl rfl ?_
    refine xm_getR (v := 36893488147419103289) (q := 56) rfl rfl (by decide) (by decide) (hT.r (k := 56) 0 56 rfl (by decide) rfl) ?_
    refine xm_getI (q := 57) rfl rfl (by decide) (by decide) ?_
    refine wq_bipush rfl rfl ?_
    refine wq_ic_eq rfl rfl (hT.i (k := 57) 4 rfl (by decide) rfl) (by decide) (fun h10 => ?_) (fun h10 => ?_)
    · replace h := od_pos h h10
      refine wq_aload_n rfl rfl rfl ?_
      refine wq_bipush rfl rfl ?_
      obtain ⟨y11, e12, h⟩ := od_bindE h
      refine wd_virtN (q := 56) (y := y11) (as := [36893488147419103288, 54]) rfl rfl rfl (by decide) (Nat.le_of_ble_eq_true rfl) (Nat.le_of_ble_eq_true rfl) rfl (Nat.le_of_ble_eq_true rfl) rfl (dkT_110 hT (by decide) e12) (fun T14 => ?_)
      refine wq_aload_n rfl rfl rfl ?_
      refine xm_getR (v := 36893488147419103291) (q := 56) rfl rfl (by decide) (by decide) (T14.r (k := 56) 3 58 rfl (by decide) rfl) ?_
      refine wq_iload_n rfl rfl hv2 ?_
      refine wq_iconst rfl rfl ?_
      refine wq_iaddZ rfl hv2 (wm_zlt (by decide)) (z := (v2 + 1) % 4294967296) rfl ?_
      obtain ⟨y15, e16, h⟩ := od_bindE h
      refine wd_virtN (q := 59) (y := y15) (as := [36893488147419103291, (v2 + 1) % 4294967296]) rfl rfl rfl (by decide) (Nat.le_of_ble_eq_true rfl) (Nat.le_of_ble_eq_true rfl) rfl (Nat.le_of_ble_eq_true rfl) rfl (dkT_162 T14 (Nat.mod_lt _ (by decide)) e16) (fun T18 => ?_)
      exact wq_ret rfl (wkON h T18)
    · replace h := od_neg h h10
      refine wq_aload_n rfl rfl rfl ?_
      refine xm_getR (v := 36893488147419103289) (q := 56) rfl rfl (by decide) (by decide) (hT.r (k := 56) 0 56 rfl (by decide) rfl) ?_
      refine xm_getI (q := 57) rfl rfl (by decide) (by decide) ?_
      refine wq_bipush rfl rfl ?_
      refine wq_ic_eq rfl rfl (hT.i (k := 57) 4 rfl (by decide) rfl) (by decide) (fun h19 => ?_) (fun h19 => ?_)
      · replace h := od_pos h h19
        exact dk_151_78T hR hr32 hT hv1 hv2 hv3 hv4 hu5 h
      · replace h := od_neg h h19
        refine wq_aload_n rfl rfl rfl ?_
        obtain ⟨y20, e21, h⟩ := od_bindE h
        refine wd_virtZ (q := 56) (y := y20) (as := [36893488147419103288]) rfl rfl rfl (by decide) (Nat.le_of_ble_eq_true rfl) (Nat.le_of_ble_eq_true rfl) rfl (Nat.le_of_ble_eq_true rfl) rfl (dkT_114 hT e21) (fun p22 T23 => ?_)
        refine wq_if_ne rfl rfl (wm_zlt p22) (fun h24 => ?_) (fun h24 => ?_)
        · replace h := od_neg h h24
          exact dk_151_78T hR hr32 T23 hv1 hv2 hv3 hv4 hu5 h
        · replace h := od_pos h h24
          refine wq_aload_n rfl rfl rfl ?_
          refine wq_iconst rfl rfl ?_
          obtain ⟨y25, e26, h⟩ := od_bindE h
          refine wd_virtN (q := 56) (y := y25) (as := [36893488147419103288, 2]) rfl rfl rfl (by decide) (Nat.le_of_ble_eq_true rfl) (Nat.le_of_ble_eq_true rfl) rfl (Nat.le_of_ble_eq_true rfl) rfl (dkT_109 T23 (by decide) e26) (fun T28 => ?_)
          refine wq_goto rfl rfl ?_
          exact dk_151_98T hR hr32 T28 hv1 hv2 hv3 hv4 hu5 h
def dk_151_32 (R : dk_Rt) (n : Nat) : Nat → wq_F → Nat → Nat → Nat → Nat → Option (Nat × wq_F)
  | 0 => fun _ _ _ _ _ => none
  | g + 1 => dk_151_32b R n (dk_151_32 R n g)
theorem dk_151_32T {d n : Nat} {R : dk_Rt} (hR : dk_spec (d + 12) R) : ∀ g : Nat, ∀ ⦃u5 : Nat⦄ ⦃F : wq_F⦄ (hT : xm_T F) ⦃v1 : Nat⦄ (hv1 : v1 < 4294967296) ⦃v2 : Nat⦄ (hv2 : v2 < 4294967296) ⦃v3 : Nat⦄ (hv3 : v3 < 4294967296) ⦃v4 : Nat⦄ (hv4 : v4 < 4294967296) (hu5 : ev_isL u5 = false) ⦃x : Nat × wq_F⦄ (h : dk_151_32 R n g F v1 v2 v3 v4 = some x), wq (wq_cf (d + 12)) (ev_un al_mX4_table.2.2.2.2) none 32 [36893488147419103288, v1, v2, v3, v4, u5] [] xm_sh F 0 0 (wkN xm_T xm_sh x)
  | 0 => by
    intro u5 F hT v1 hv1 v2 hv2 v3 hv3 v4 hv4 hu5 x h
    cases h
  | g + 1 => dk_151_32bT hR (dk_151_32T hR g)
/-- X4_table -/
def dk_151 (R : dk_Rt) (n : Nat) (F : wq_F) (a0 : Nat) : Option (Nat × wq_F) :=
  (dk_84 F).bind fun y1 =>
  (dk_112 y1.2 13 0 (y1.2 57 6) 1).bind fun y5 =>
  (dk_77 n y5.2).bind fun y9 =>
  dk_151_32 R n n y9.2 a0 y1.1 0 0
theorem dkT_151 {d n : Nat} {R : dk_Rt} (hR : dk_spec (d + 12) R) {F : wq_F} (hT : xm_T F) {a0 : Nat} (ha0 : a0 < 4294967296) {x : Nat × wq_F} (h : dk_151 R n F a0 = some x) : mq (d + 12 + 1) 151 [36893488147419103288, a0] xm_sh F (wkN xm_T xm_sh x) := by
  have e : ev_ent [36893488147419103288, a0] = [36893488147419103288, a0] := by
    show 36893488147419103288 :: ev_ent [a0] = _
    rw [wm_entI ha0]
    rfl
  refine mq_of (maxL := 6) (rt := none) (code := (ev_un al_mX4_table.2.2.2.2)) (L := [36893488147419103288, a0, 73786976294838206464, 73786976294838206464, 73786976294838206464, 73786976294838206464]) rfl (by rw [e]; exact Nat.le_of_ble_eq_true rfl) (by rw [e]; rfl) ?_
  unfold dk_151 at h
  refine wq_aload_n rfl rfl rfl ?_
  refine xm_getR (v := 36893488147419103291) (q := 56) rfl rfl (by decide) (by decide) (hT.r (k := 56) 3 58 rfl (by decide) rfl) ?_
  obtain ⟨y1, e2, h⟩ := od_bindE h
  refine wd_virtI (q := 59) (y := y1) (as := [36893488147419103291]) rfl rfl rfl (by decide) (Nat.le_of_ble_eq_true rfl) (Nat.le_of_ble_eq_true rfl) rfl (Nat.le_of_ble_eq_true rfl) rfl (dkT_84 hT e2) (fun p3 T4 => ?_)
  refine wq_istore_n rfl p3 (Nat.le_of_ble_eq_true rfl) (Or.inr ⟨_, rfl, (wq_notL ha0)⟩) (L' := [36893488147419103288, a0, y1.1, 73786976294838206464, 73786976294838206464, 73786976294838206464]) rfl ?_
  refine wq_aload_n rfl rfl rfl ?_
  refine wq_bipush rfl rfl ?_
  refine wq_iconst rfl rfl ?_
  refine wq_aload_n rfl rfl rfl ?_
  refine xm_getR (v := 36893488147419103289) (q := 56) rfl rfl (by decide) (by decide) (T4.r (k := 56) 0 56 rfl (by decide) rfl) ?_
  refine xm_getI (q := 57) rfl rfl (by decide) (by decide) ?_
  refine wq_iconst rfl rfl ?_
  obtain ⟨y5, e6, h⟩ := od_bindE h
  refine wd_virtN (q := 56) (y := y5) (as := [36893488147419103288, 13, 0, y1.2 57 6, 1]) rfl rfl rfl (by decide) (Nat.le_of_ble_eq_true rfl) (Nat.le_of_ble_eq_true rfl) rfl (Nat.le_of_ble_eq_true rfl) rfl (dkT_112 T4 (by decide) (wm_zlt (by decide)) (T4.i (k := 57) 6 rfl (by decide) rfl) (wm_zlt (by decide)) e6) (fun T8 => ?_)
  refine wq_aload_n rfl rfl rfl ?_
  obtain ⟨y9, e10, h⟩ := od_bindE h
  refine wd_virtN (q := 56) (y := y9) (as := [36893488147419103288]) rfl rfl rfl (by decide) (Nat.le_of_ble_eq_true rfl) (Nat.le_of_ble_eq_true rfl) rfl (Nat.le_of_ble_eq_true rfl) rfl (dkT_77 T8 e10) (fun T12 => ?_)
  refine wq_iconst rfl rfl ?_
  refine wq_istore_n rfl (wm_zlt (by decide)) (Nat.le_of_ble_eq_true rfl) (Or.inr ⟨_, rfl, (wq_notL p3)⟩) (L' := [36893488147419103288, a0, y1.1, 0, 73786976294838206464, 73786976294838206464]) rfl ?_
  refine wq_iconst rfl rfl ?_
  refine wq_istore rfl (wm_zlt (by decide)) (Nat.le_of_ble_eq_true rfl) (Or.inr ⟨_, rfl, (wq_notL (wm_zlt (by decide)))⟩) (L' := [36893488147419103288, a0, y1.1, 0, 0, 73786976294838206464]) rfl ?_
  exact dk_151_32T hR n T12 ha0 p3 (wm_zlt (by decide)) (wm_zlt (by decide)) rfl h
def dk_153_43 (R : dk_Rt) (n : Nat) (F : wq_F) (v1 : Nat) (v2 : Nat) : Option (Nat × wq_F) :=
  (dk_110 n F 49).bind fun y1 =>
  (R 148 [0, (v1 + 2) % 4294967296] y1.2).bind fun y5 =>
  (dk_112 y5.2 14 0 v2 4294967294).bind fun y9 =>
  some (0, y9.2)
theorem dk_153_43T {d n : Nat} {R : dk_Rt} (hR : dk_spec (d + 12) R) : ∀ ⦃F : wq_F⦄ (hT : xm_T F) ⦃v1 : Nat⦄ (hv1 : v1 < 4294967296) ⦃v2 : Nat⦄ (hv2 : v2 < 4294967296) ⦃x : Nat × wq_F⦄ (h : dk_153_43 R n F v1 v2 = some x), wq (wq_cf (d + 12)) (ev_un al_mX4_keyedField.2.2.2.2) none 43 [36893488147419103288, v1, v2] [] xm_sh F 0 0 (wkN xm_T xm_sh x) := by
  intro F hT v1 hv1 v2 hv2 x h
  unfold dk_153_43 at h
  refine wq_aload_n rfl rfl rfl ?_
  refine wq_bipush rfl rfl ?_
  obtain ⟨y1, e2, h⟩ := od_bindE h
  refine wd_virtN (q := 56) (y := y1) (as := [36893488147419103288, 49]) rfl rfl rfl (by decide) (Nat.le_of_ble_eq_true rfl) (Nat.le_of_ble_eq_true rfl) rfl (Nat.le_of_ble_eq_true rfl) rfl (dkT_110 hT (by decide) e2) (fun T4 => ?_)
  refine wq_aload_n rfl rfl rfl ?_
  refine wq_iconst rfl rfl ?_
  refine wq_iload_n rfl rfl hv1 ?_
  refine wq_iconst rfl rfl ?_
  refine wq_iaddZ rfl hv1 (by decide) (z := (v1 + 2) % 4294967296) rfl ?_
  obtain ⟨y5, e6, h⟩ := od_bindE h
  refine wd_virtZ (q := 56) (y := y5) (as := [36893488147419103288, 0, (v1 + 2) % 4294967296]) rfl rfl rfl (by decide) (Nat.le_of_ble_eq_true rfl) (Nat.le_of_ble_eq_true rfl) rfl (Nat.le_of_ble_eq_true rfl) rfl (dk_s148 hR T4 (wm_zlt (by decide)) (Nat.mod_lt _ (by decide)) e6) (fun p7 T8 => ?_)
  refine wq_pop rfl (wq_notL (wm_zlt p7)) ?_
  refine wq_aload_n rfl rfl rfl ?_
  refine wq_bipush rfl rfl ?_
  refine wq_iconst rfl rfl ?_
  refine wq_iload_n rfl rfl hv2 ?_
  refine wq_bipush rfl rfl ?_
  obtain ⟨y9, e10, h⟩ := od_bindE h
  refine wd_virtN (q := 56) (y := y9) (as := [36893488147419103288, 14, 0, v2, 4294967294]) rfl rfl rfl (by decide) (Nat.le_of_ble_eq_true rfl) (Nat.le_of_ble_eq_true rfl) rfl (Nat.le_of_ble_eq_true rfl) rfl (dkT_112 T8 (by decide) (wm_zlt (by decide)) hv2 (by decide) e10) (fun T12 => ?_)
  exact wq_ret rfl (wkON h T12)
/-- X4_keyedField -/
def dk_153 (R : dk_Rt) (n : Nat) (F : wq_F) (a0 : Nat) : Option (Nat × wq_F) :=
  (dk_111 n F 55).bind fun y1 =>
  if y1.1 = 0 then
    (dk_135 y1.2).bind fun y6 =>
    (dk_77 n y6.2).bind fun y10 =>
    dk_153_43 R n y10.2 a0 (F 57 6)
  else
    (R 148 [0, (a0 + 2) % 4294967296] y1.2).bind fun y14 =>
    (dk_110 n y14.2 56).bind fun y18 =>
    dk_153_43 R n y18.2 a0 (F 57 6)
theorem dkT_153 {d n : Nat} {R : dk_Rt} (hR : dk_spec (d + 12) R) {F : wq_F} (hT : xm_T F) {a0 : Nat} (ha0 : a0 < 4294967296) {x : Nat × wq_F} (h : dk_153 R n F a0 = some x) : mq (d + 12 + 1) 153 [36893488147419103288, a0] xm_sh F (wkN xm_T xm_sh x) := by
  have e : ev_ent [36893488147419103288, a0] = [36893488147419103288, a0] := by
    show 36893488147419103288 :: ev_ent [a0] = _
    rw [wm_entI ha0]
    rfl
  refine mq_of (maxL := 3) (rt := none) (code := (ev_un al_mX4_keyedField.2.2.2.2)) (L := [36893488147419103288, a0, 73786976294838206464]) rfl (by rw [e]; exact Nat.le_of_ble_eq_true rfl) (by rw [e]; rfl) ?_
  unfold dk_153 at h
  refine wq_aload_n rfl rfl rfl ?_
  refine xm_getR (v := 36893488147419103289) (q := 56) rfl rfl (by decide) (by decide) (hT.r (k := 56) 0 56 rfl (by decide) rfl) ?_
  refine xm_getI (q := 57) rfl rfl (by decide) (by decide) ?_
  refine wq_istore_n rfl (hT.i (k := 57) 6 rfl (by decide) rfl) (Nat.le_of_ble_eq_true rfl) (Or.inr ⟨_, rfl, (wq_notL ha0)⟩) (L' := [36893488147419103288, a0, F 57 6]) rfl ?_
  refine wq_aload_n rfl rfl rfl ?_
  refine wq_bipush rfl rfl ?_
  obtain ⟨y1, e2, h⟩ := od_bindE h
  refine wd_virtZ (q := 56) (y := y1) (as := [36893488147419103288, 55]) rfl rfl rfl (by decide) (Nat.le_of_ble_eq_true rfl) (Nat.le_of_ble_eq_true rfl) rfl (Nat.le_of_ble_eq_true rfl) rfl (dkT_111 hT (by decide) e2) (fun p3 T4 => ?_)
  refine wq_if_eq rfl rfl (wm_zlt p3) (fun h5 => ?_) (fun h5 => ?_)
  · replace h := od_pos h h5
    refine wq_aload_n rfl rfl rfl ?_
    obtain ⟨y6, e7, h⟩ := od_bindE h
    refine wd_virtN (q := 56) (y := y6) (as := [36893488147419103288]) rfl rfl rfl (by decide) (Nat.le_of_ble_eq_true rfl) (Nat.le_of_ble_eq_true rfl) rfl (Nat.le_of_ble_eq_true rfl) rfl (dkT_135 T4 e7) (fun T9 => ?_)
    refine wq_aload_n rfl rfl rfl ?_
    obtain ⟨y10, e11, h⟩ := od_bindE h
    refine wd_virtN (q := 56) (y := y10) (as := [36893488147419103288]) rfl rfl rfl (by decide) (Nat.le_of_ble_eq_true rfl) (Nat.le_of_ble_eq_true rfl) rfl (Nat.le_of_ble_eq_true rfl) rfl (dkT_77 T9 e11) (fun T13 => ?_)
    exact dk_153_43T hR T13 ha0 (hT.i (k := 57) 6 rfl (by decide) rfl) h
  · replace h := od_neg h h5
    refine wq_aload_n rfl rfl rfl ?_
    refine wq_iconst rfl rfl ?_
    refine wq_iload_n rfl rfl ha0 ?_
    refine wq_iconst rfl rfl ?_
    refine wq_iaddZ rfl ha0 (by decide) (z := (a0 + 2) % 4294967296) rfl ?_
    obtain ⟨y14, e15, h⟩ := od_bindE h
    refine wd_virtZ (q := 56) (y := y14) (as := [36893488147419103288, 0, (a0 + 2) % 4294967296]) rfl rfl rfl (by decide) (Nat.le_of_ble_eq_true rfl) (Nat.le_of_ble_eq_true rfl) rfl (Nat.le_of_ble_eq_true rfl) rfl (dk_s148 hR T4 (wm_zlt (by decide)) (Nat.mod_lt _ (by decide)) e15) (fun p16 T17 => ?_)
    refine wq_pop rfl (wq_notL (wm_zlt p16)) ?_
    refine wq_aload_n rfl rfl rfl ?_
    refine wq_bipush rfl rfl ?_
    obtain ⟨y18, e19, h⟩ := od_bindE h
    refine wd_virtN (q := 56) (y := y18) (as := [36893488147419103288, 56]) rfl rfl rfl (by decide) (Nat.le_of_ble_eq_true rfl) (Nat.le_of_ble_eq_true rfl) rfl (Nat.le_of_ble_eq_true rfl) rfl (dkT_110 T17 (by decide) e19) (fun T21 => ?_)
    refine wq_goto rfl rfl ?_
    exact dk_153_43T hR T21 ha0 (hT.i (k := 57) 6 rfl (by decide) rfl) h
/-- X4_itemField -/
def dk_154 (R : dk_Rt) (n : Nat) (F : wq_F) (a0 : Nat) (a1 : Nat) (a2 : Nat) : Option (Nat × wq_F) :=
  (R 148 [0, (a0 + 2) % 4294967296] F).bind fun y1 =>
  (dk_152 n y1.2).bind fun y5 =>
  if y1.1 = 0 then
    (dk_112 y5.2 15 a1 0 4294967295).bind fun y10 =>
    some (0, y10.2)
  else
    if (y5.2 57 4) = 54 then
      (dk_158 y5.2 4294967295).bind fun y19 =>
      (dk_78 y19.2 16 a1 a2 0).bind fun y23 =>
      (dk_163 y23.2 4294967295).bind fun y27 =>
      some (0, y27.2)
    else
      (dk_112 y5.2 15 a1 0 4294967295).bind fun y15 =>
      some (0, y15.2)
theorem dkT_154 {d n : Nat} {R : dk_Rt} (hR : dk_spec (d + 12) R) {F : wq_F} (hT : xm_T F) {a0 : Nat} (ha0 : a0 < 4294967296) {a1 : Nat} (ha1 : a1 < 4294967296) {a2 : Nat} (ha2 : a2 < 4294967296) {x : Nat × wq_F} (h : dk_154 R n F a0 a1 a2 = some x) : mq (d + 12 + 1) 154 [36893488147419103288, a0, a1, a2] xm_sh F (wkN xm_T xm_sh x) := by
  have e : ev_ent [36893488147419103288, a0, a1, a2] = [36893488147419103288, a0, a1, a2] := by
    show 36893488147419103288 :: ev_ent [a0, a1, a2] = _
    rw [wm_entI ha0, wm_entI ha1, wm_entI ha2]
    rfl
  refine mq_of (maxL := 5) (rt := none) (code := (ev_un al_mX4_itemField.2.2.2.2)) (L := [36893488147419103288, a0, a1, a2, 73786976294838206464]) rfl (by rw [e]; exact Nat.le_of_ble_eq_true rfl) (by rw [e]; rfl) ?_
  unfold dk_154 at h
  refine wq_aload_n rfl rfl rfl ?_
  refine wq_iconst rfl rfl ?_
  refine wq_iload_n rfl rfl ha0 ?_
  refine wq_iconst rfl rfl ?_
  refine wq_iaddZ rfl ha0 (by decide) (z := (a0 + 2) % 4294967296) rfl ?_
  obtain ⟨y1, e2, h⟩ := od_bindE h
  refine wd_virtZ (q := 56) (y := y1) (as := [36893488147419103288, 0, (a0 + 2) % 4294967296]) rfl rfl rfl (by decide) (Nat.le_of_ble_eq_true rfl) (Nat.le_of_ble_eq_true rfl) rfl (Nat.le_of_ble_eq_true rfl) rfl (dk_s148 hR hT (wm_zlt (by decide)) (Nat.mod_lt _ (by decide)) e2) (fun p3 T4 => ?_)
  refine wq_istore rfl (wm_zlt p3) (Nat.le_of_ble_eq_true rfl) (Or.inr ⟨_, rfl, (wq_notL ha2)⟩) (L' := [36893488147419103288, a0, a1, a2, y1.1]) rfl ?_
  refine wq_aload_n rfl rfl rfl ?_
  obtain ⟨y5, e6, h⟩ := od_bindE h
  refine wd_virtN (q := 56) (y := y5) (as := [36893488147419103288]) rfl rfl rfl (by decide) (Nat.le_of_ble_eq_true rfl) (Nat.le_of_ble_eq_true rfl) rfl (Nat.le_of_ble_eq_true rfl) rfl (dkT_152 T4 e6) (fun T8 => ?_)
  refine wq_iload rfl rfl (wm_zlt p3) ?_
  refine wq_if_eq rfl rfl (wm_zlt p3) (fun h9 => ?_) (fun h9 => ?_)
  · replace h := od_pos h h9
    refine wq_aload_n rfl rfl rfl ?_
    refine wq_bipush rfl rfl ?_
    refine wq_iload_n rfl rfl ha1 ?_
    refine wq_iconst rfl rfl ?_
    refine wq_iconst rfl rfl ?_
    obtain ⟨y10, e11, h⟩ := od_bindE h
    refine wd_virtN (q := 56) (y := y10) (as := [36893488147419103288, 15, a1, 0, 4294967295]) rfl rfl rfl (by decide) (Nat.le_of_ble_eq_true rfl) (Nat.le_of_ble_eq_true rfl) rfl (Nat.le_of_ble_eq_true rfl) rfl (dkT_112 T8 (by decide) ha1 (wm_zlt (by decide)) (by decide) e11) (fun T13 => ?_)
    exact wq_ret rfl (wkON h T13)
  · replace h := od_neg h h9
    refine wq_aload_n rfl rfl rfl ?_
    refine xm_getR (v := 36893488147419103289) (q := 56) rfl rfl (by decide) (by decide) (T8.r (k := 56) 0 56 rfl (by decide) rfl) ?_
    refine xm_getI (q := 57) rfl rfl (by decide) (by decide) ?_
    refine wq_bipush rfl rfl ?_
    refine wq_ic_ne rfl rfl (T8.i (k := 57) 4 rfl (by decide) rfl) (by decide) (fun h14 => ?_) (fun h14 => ?_)
    · replace h := od_neg h h14
      refine wq_aload_n rfl rfl rfl ?_
      refine wq_bipush rfl rfl ?_
      refine wq_iload_n rfl rfl ha1 ?_
      refine wq_iconst rfl rfl ?_
      refine wq_iconst rfl rfl ?_
      obtain ⟨y15, e16, h⟩ := od_bindE h
      refine wd_virtN (q := 56) (y := y15) (as := [36893488147419103288, 15, a1, 0, 4294967295]) rfl rfl rfl (by decide) (Nat.le_of_ble_eq_true rfl) (Nat.le_of_ble_eq_true rfl) rfl (Nat.le_of_ble_eq_true rfl) rfl (dkT_112 T8 (by decide) ha1 (wm_zlt (by decide)) (by decide) e16) (fun T18 => ?_)
      exact wq_ret rfl (wkON h T18)
    · replace h := od_pos h h14
      refine wq_aload_n rfl rfl rfl ?_
      refine xm_getR (v := 36893488147419103243) (q := 56) rfl rfl (by decide) (by decide) (T8.r (k := 56) 1 10 rfl (by decide) rfl) ?_
      refine wq_iconst rfl rfl ?_
      obtain ⟨y19, e20, h⟩ := od_bindE h
      refine wd_virtN (q := 11) (y := y19) (as := [36893488147419103243, 4294967295]) rfl rfl rfl (by decide) (Nat.le_of_ble_eq_true rfl) (Nat.le_of_ble_eq_true rfl) rfl (Nat.le_of_ble_eq_true rfl) rfl (dkT_158 T8 (by decide) e20) (fun T22 => ?_)
      refine wq_aload_n rfl rfl rfl ?_
      refine wq_bipush rfl rfl ?_
      refine wq_iload_n rfl rfl ha1 ?_
      refine wq_iload_n rfl rfl ha2 ?_
      refine wq_iconst rfl rfl ?_
      obtain ⟨y23, e24, h⟩ := od_bindE h
      refine wd_virtI (q := 56) (y := y23) (as := [36893488147419103288, 16, a1, a2, 0]) rfl rfl rfl (by decide) (Nat.le_of_ble_eq_true rfl) (Nat.le_of_ble_eq_true rfl) rfl (Nat.le_of_ble_eq_true rfl) rfl (dkT_78 T22 (by decide) ha1 ha2 (wm_zlt (by decide)) e24) (fun p25 T26 => ?_)
      refine wq_pop rfl (wq_notL p25) ?_
      refine wq_aload_n rfl rfl rfl ?_
      refine xm_getR (v := 36893488147419103291) (q := 56) rfl rfl (by decide) (by decide) (T26.r (k := 56) 3 58 rfl (by decide) rfl) ?_
      refine wq_iconst rfl rfl ?_
      obtain ⟨y27, e28, h⟩ := od_bindE h
      refine wd_virtN (q := 59) (y := y27) (as := [36893488147419103291, 4294967295]) rfl rfl rfl (by decide) (Nat.le_of_ble_eq_true rfl) (Nat.le_of_ble_eq_true rfl) rfl (Nat.le_of_ble_eq_true rfl) rfl (dkT_163 T26 (by decide) e28) (fun T30 => ?_)
      refine wq_goto rfl rfl ?_
      exact wq_ret rfl (wkON h T30)
def dk_155_117 (R : dk_Rt) (n : Nat) (F : wq_F) (v1 : Nat) (v3 : Nat) (v4 : Nat) (v5 : Nat) : Option (Nat × wq_F) :=
  (dk_77 n F).bind fun y1 =>
  (dk_156 n y1.2 v3).bind fun y5 =>
  (dk_110 n y5.2 52).bind fun y9 =>
  (dk_167 n y9.2 v5 0).bind fun y13 =>
  od_let (((y13.2 59 3) + (4294967296 - v5)) % 4294967296) fun y17 =>
  od_g (v3 < 50) <|
  od_up y13.2 18 v3 y17 fun F21 =>
  od_g (v3 < 50) <|
  (dk_162 F21 (F21 18 v3)).bind fun y25 =>
  (dk_78 y25.2 0 0 0 0).bind fun y29 =>
  (R 80 [(v1 + 1) % 4294967296] y29.2).bind fun y33 =>
  (dk_84 y33.2).bind fun y37 =>
  (dk_78 y37.2 20 y37.1 0 0).bind fun y41 =>
  (dk_110 n y41.2 15).bind fun y45 =>
  (dk_160 y45.2).bind fun y49 =>
  (dk_159 n y49.2 v4).bind fun y53 =>
  (dk_163 y53.2 1).bind fun y57 =>
  some (0, y57.2)
theorem dk_155_117T {d n : Nat} {R : dk_Rt} (hR : dk_spec (d + 12) R) : ∀ ⦃u2 : Nat⦄ ⦃F : wq_F⦄ (hT : xm_T F) ⦃v1 : Nat⦄ (hv1 : v1 < 4294967296) ⦃v3 : Nat⦄ (hv3 : v3 < 4294967296) ⦃v4 : Nat⦄ (hv4 : v4 < 4294967296) ⦃v5 : Nat⦄ (hv5 : v5 < 4294967296) (hu2 : ev_isL u2 = false) ⦃x : Nat × wq_F⦄ (h : dk_155_117 R n F v1 v3 v4 v5 = some x), wq (wq_cf (d + 12)) (ev_un al_mX4_body.2.2.2.2) none 117 [36893488147419103288, v1, u2, v3, v4, v5] [] xm_sh F 0 0 (wkN xm_T xm_sh x) := by
  intro u2 F hT v1 hv1 v3 hv3 v4 hv4 v5 hv5 hu2 x h
  unfold dk_155_117 at h
  refine wq_aload_n rfl rfl rfl ?_
  obtain ⟨y1, e2, h⟩ := od_bindE h
  refine wd_virtN (q := 56) (y := y1) (as := [36893488147419103288]) rfl rfl rfl (by decide) (Nat.le_of_ble_eq_true rfl) (Nat.le_of_ble_eq_true rfl) rfl (Nat.le_of_ble_eq_true rfl) rfl (dkT_77 hT e2) (fun T4 => ?_)
  refine wq_aload_n rfl rfl rfl ?_
  refine wq_iload_n rfl rfl hv3 ?_
  obtain ⟨y5, e6, h⟩ := od_bindE h
  refine wd_virtN (q := 56) (y := y5) (as := [36893488147419103288, v3]) rfl rfl rfl (by decide) (Nat.le_of_ble_eq_true rfl) (Nat.le_of_ble_eq_true rfl) rfl (Nat.le_of_ble_eq_true rfl) rfl (dkT_156 T4 hv3 e6) (fun T8 => ?_)
  refine wq_aload_n rfl rfl rfl ?_
  refine wq_bipush rfl rfl ?_
  obtain ⟨y9, e10, h⟩ := od_bindE h
  refine wd_virtN (q := 56) (y := y9) (as := [36893488147419103288, 52]) rfl rfl rfl (by decide) (Nat.le_of_ble_eq_true rfl) (Nat.le_of_ble_eq_true rfl) rfl (Nat.le_of_ble_eq_true rfl) rfl (dkT_110 T8 (by decide) e10) (fun T12 => ?_)
  refine wq_aload_n rfl rfl rfl ?_
  refine xm_getR (v := 36893488147419103291) (q := 56) rfl rfl (by decide) (by decide) (T12.r (k := 56) 3 58 rfl (by decide) rfl) ?_
  refine wq_iload rfl rfl hv5 ?_
  refine wq_iconst rfl rfl ?_
  obtain ⟨y13, e14, h⟩ := od_bindE h
  refine wd_virtN (q := 59) (y := y13) (as := [36893488147419103291, v5, 0]) rfl rfl rfl (by decide) (Nat.le_of_ble_eq_true rfl) (Nat.le_of_ble_eq_true rfl) rfl (Nat.le_of_ble_eq_true rfl) rfl (dkT_167 T12 hv5 (wm_zlt (by decide)) e14) (fun T16 => ?_)
  refine wq_aload_n rfl rfl rfl ?_
  refine xm_getR (v := 36893488147419103243) (q := 56) rfl rfl (by decide) (by decide) (T16.r (k := 56) 1 10 rfl (by decide) rfl) ?_
  refine xm_getR (v := 36893488147419103250) (q := 11) rfl rfl (by decide) (by decide) (T16.r (k := 11) 8 17 rfl (by decide) rfl) ?_
  refine wq_iload_n rfl rfl hv3 ?_
  refine wq_aload_n rfl rfl rfl ?_
  refine xm_getR (v := 36893488147419103291) (q := 56) rfl rfl (by decide) (by decide) (T16.r (k := 56) 3 58 rfl (by decide) rfl) ?_
  refine xm_getI (q := 59) rfl rfl (by decide) (by decide) ?_
  refine wq_iload rfl rfl hv5 ?_
  refine wq_isubZ rfl (T16.i (k := 59) 3 rfl (by decide) rfl) hv5 (z := ((y13.2 59 3) + (4294967296 - v5)) % 4294967296) rfl ?_
  obtain ⟨y17, e18, h⟩ := od_letE h
  refine wq_top e18.symm ?_
  have p19 : y17 < 4294967296 := wd_lt e18 (Nat.mod_lt _ (by decide))
  obtain ⟨g20, h⟩ := od_gE h
  obtain ⟨F21, e22, h⟩ := od_upE h
  refine wd_iastore (q := 18) (n := 50) rfl rfl (by decide) g20 (by decide) p19 e22 ?_
  have T23 : xm_T F21 := wd_T e22 (T16.ua (k := 18) (kd := 1000) (n := 50) (i := v3) (v := y17) rfl (by decide) g20 (show y17 < 4294967296 from p19))
  refine wq_aload_n rfl rfl rfl ?_
  refine xm_getR (v := 36893488147419103291) (q := 56) rfl rfl (by decide) (by decide) (T23.r (k := 56) 3 58 rfl (by decide) rfl) ?_
  refine wq_aload_n rfl rfl rfl ?_
  refine xm_getR (v := 36893488147419103243) (q := 56) rfl rfl (by decide) (by decide) (T23.r (k := 56) 1 10 rfl (by decide) rfl) ?_
  refine xm_getR (v := 36893488147419103250) (q := 11) rfl rfl (by decide) (by decide) (T23.r (k := 11) 8 17 rfl (by decide) rfl) ?_
  refine wq_iload_n rfl rfl hv3 ?_
  obtain ⟨g24, h⟩ := od_gE h
  refine wq_iaload (q := 18) (n := 50) rfl rfl (by decide) g24 (by decide) ?_
  obtain ⟨y25, e26, h⟩ := od_bindE h
  refine wd_virtN (q := 59) (y := y25) (as := [36893488147419103291, F21 18 v3]) rfl rfl rfl (by decide) (Nat.le_of_ble_eq_true rfl) (Nat.le_of_ble_eq_true rfl) rfl (Nat.le_of_ble_eq_true rfl) rfl (dkT_162 T23 (T23.ai (k := 18) rfl g24) e26) (fun T28 => ?_)
  refine wq_aload_n rfl rfl rfl ?_
  refine wq_iconst rfl rfl ?_
  refine wq_iconst rfl rfl ?_
  refine wq_iconst rfl rfl ?_
  refine wq_iconst rfl rfl ?_
  obtain ⟨y29, e30, h⟩ := od_bindE h
  refine wd_virtI (q := 56) (y := y29) (as := [36893488147419103288, 0, 0, 0, 0]) rfl rfl rfl (by decide) (Nat.le_of_ble_eq_true rfl) (Nat.le_of_ble_eq_true rfl) rfl (Nat.le_of_ble_eq_true rfl) rfl (dkT_78 T28 (wm_zlt (by decide)) (wm_zlt (by decide)) (wm_zlt (by decide)) (wm_zlt (by decide)) e30) (fun p31 T32 => ?_)
  refine wq_pop rfl (wq_notL p31) ?_
  refine wq_aload_n rfl rfl rfl ?_
  refine wq_iload_n rfl rfl hv1 ?_
  refine wq_iconst rfl rfl ?_
  refine wq_iaddZ rfl hv1 (wm_zlt (by decide)) (z := (v1 + 1) % 4294967296) rfl ?_
  obtain ⟨y33, e34, h⟩ := od_bindE h
  refine wd_virtN (q := 56) (y := y33) (as := [36893488147419103288, (v1 + 1) % 4294967296]) rfl rfl rfl (by decide) (Nat.le_of_ble_eq_true rfl) (Nat.le_of_ble_eq_true rfl) rfl (Nat.le_of_ble_eq_true rfl) rfl (dk_s80 hR T32 (Nat.mod_lt _ (by decide)) e34) (fun T36 => ?_)
  refine wq_aload_n rfl rfl rfl ?_
  refine wq_bipush rfl rfl ?_
  refine wq_aload_n rfl rfl rfl ?_
  refine xm_getR (v := 36893488147419103291) (q := 56) rfl rfl (by decide) (by decide) (T36.r (k := 56) 3 58 rfl (by decide) rfl) ?_
  obtain ⟨y37, e38, h⟩ := od_bindE h
  refine wd_virtI (q := 59) (y := y37) (as := [36893488147419103291]) rfl rfl rfl (by decide) (Nat.le_of_ble_eq_true rfl) (Nat.le_of_ble_eq_true rfl) rfl (Nat.le_of_ble_eq_true rfl) rfl (dkT_84 T36 e38) (fun p39 T40 => ?_)
  refine wq_iconst rfl rfl ?_
  refine wq_iconst rfl rfl ?_
  obtain ⟨y41, e42, h⟩ := od_bindE h
  refine wd_virtI (q := 56) (y := y41) (as := [36893488147419103288, 20, y37.1, 0, 0]) rfl rfl rfl (by decide) (Nat.le_of_ble_eq_true rfl) (Nat.le_of_ble_eq_true rfl) rfl (Nat.le_of_ble_eq_true rfl) rfl (dkT_78 T40 (by decide) p39 (wm_zlt (by decide)) (wm_zlt (by decide)) e42) (fun p43 T44 => ?_)
  refine wq_pop rfl (wq_notL p43) ?_
  refine wq_aload_n rfl rfl rfl ?_
  refine wq_bipush rfl rfl ?_
  obtain ⟨y45, e46, h⟩ := od_bindE h
  refine wd_virtN (q := 56) (y := y45) (as := [36893488147419103288, 15]) rfl rfl rfl (by decide) (Nat.le_of_ble_eq_true rfl) (Nat.le_of_ble_eq_true rfl) rfl (Nat.le_of_ble_eq_true rfl) rfl (dkT_110 T44 (by decide) e46) (fun T48 => ?_)
  refine wq_aload_n rfl rfl rfl ?_
  refine xm_getR (v := 36893488147419103291) (q := 56) rfl rfl (by decide) (by decide) (T48.r (k := 56) 3 58 rfl (by decide) rfl) ?_
  obtain ⟨y49, e50, h⟩ := od_bindE h
  refine wd_virtN (q := 59) (y := y49) (as := [36893488147419103291]) rfl rfl rfl (by decide) (Nat.le_of_ble_eq_true rfl) (Nat.le_of_ble_eq_true rfl) rfl (Nat.le_of_ble_eq_true rfl) rfl (dkT_160 T48 e50) (fun T52 => ?_)
  refine wq_aload_n rfl rfl rfl ?_
  refine xm_getR (v := 36893488147419103243) (q := 56) rfl rfl (by decide) (by decide) (T52.r (k := 56) 1 10 rfl (by decide) rfl) ?_
  refine wq_iload rfl rfl hv4 ?_
  obtain ⟨y53, e54, h⟩ := od_bindE h
  refine wd_virtN (q := 11) (y := y53) (as := [36893488147419103243, v4]) rfl rfl rfl (by decide) (Nat.le_of_ble_eq_true rfl) (Nat.le_of_ble_eq_true rfl) rfl (Nat.le_of_ble_eq_true rfl) rfl (dkT_159 T52 hv4 e54) (fun T56 => ?_)
  refine wq_aload_n rfl rfl rfl ?_
  refine xm_getR (v := 36893488147419103291) (q := 56) rfl rfl (by decide) (by decide) (T56.r (k := 56) 3 58 rfl (by decide) rfl) ?_
  refine wq_iconst rfl rfl ?_
  obtain ⟨y57, e58, h⟩ := od_bindE h
  refine wd_virtN (q := 59) (y := y57) (as := [36893488147419103291, 1]) rfl rfl rfl (by decide) (Nat.le_of_ble_eq_true rfl) (Nat.le_of_ble_eq_true rfl) rfl (Nat.le_of_ble_eq_true rfl) rfl (dkT_163 T56 (wm_zlt (by decide)) e58) (fun T60 => ?_)
  exact wq_ret rfl (wkON h T60)
/-- X4_body -/
def dk_155 (R : dk_Rt) (n : Nat) (F : wq_F) (a0 : Nat) (a1 : Nat) : Option (Nat × wq_F) :=
  if (F 57 4) = 51 then
    if ev_s (F 11 14) < ev_s 50 then
      (dk_57 F (F 57 6)).bind fun y3 =>
      (dk_78 y3.2 18 y3.1 4294967295 (y3.2 57 6)).bind fun y7 =>
      od_g (y3.1 < 50) <|
      od_up y7.2 17 y3.1 (y7.2 11 4) fun F12 =>
      (dk_83 F12 y3.1).bind fun y15 =>
      if a1 = 0 then
        dk_155_117 R n y15.2 a0 y3.1 y7.1 (y15.2 59 3)
      else
        (dk_166 y15.2 (y15.2 56 12)).bind fun y20 =>
        dk_155_117 R n y20.2 a0 y3.1 y7.1 (y15.2 59 3)
    else
      (dk_109 F 3).bind fun y24 =>
      some (0, y24.2)
  else
    (dk_109 F 2).bind fun y28 =>
    some (0, y28.2)
theorem dkT_155 {d n : Nat} {R : dk_Rt} (hR : dk_spec (d + 12) R) {F : wq_F} (hT : xm_T F) {a0 : Nat} (ha0 : a0 < 4294967296) {a1 : Nat} (ha1 : a1 < 2) {x : Nat × wq_F} (h : dk_155 R n F a0 a1 = some x) : mq (d + 12 + 1) 155 [36893488147419103288, a0, a1] xm_sh F (wkN xm_T xm_sh x) := by
  have e : ev_ent [36893488147419103288, a0, a1] = [36893488147419103288, a0, a1] := by
    show 36893488147419103288 :: ev_ent [a0, a1] = _
    rw [wm_entI ha0, wm_entI (wm_zlt ha1)]
    rfl
  refine mq_of (maxL := 6) (rt := none) (code := (ev_un al_mX4_body.2.2.2.2)) (L := [36893488147419103288, a0, a1, 73786976294838206464, 73786976294838206464, 73786976294838206464]) rfl (by rw [e]; exact Nat.le_of_ble_eq_true rfl) (by rw [e]; rfl) ?_
  unfold dk_155 at h
  refine wq_aload_n rfl rfl rfl ?_
  refine xm_getR (v := 36893488147419103289) (q := 56) rfl rfl (by decide) (by decide) (hT.r (k := 56) 0 56 rfl (by decide) rfl) ?_
  refine xm_getI (q := 57) rfl rfl (by decide) (by decide) ?_
  refine wq_bipush rfl rfl ?_
  refine wq_ic_eq rfl rfl (hT.i (k := 57) 4 rfl (by decide) rfl) (by decide) (fun h1 => ?_) (fun h1 => ?_)
  · replace h := od_pos h h1
    refine wq_aload_n rfl rfl rfl ?_
    refine xm_getR (v := 36893488147419103243) (q := 56) rfl rfl (by decide) (by decide) (hT.r (k := 56) 1 10 rfl (by decide) rfl) ?_
    refine xm_getI (q := 11) rfl rfl (by decide) (by decide) ?_
    refine wq_bipush rfl rfl ?_
    refine wq_ic_lt rfl rfl (hT.i (k := 11) 14 rfl (by decide) rfl) (by decide) (fun h2 => ?_) (fun h2 => ?_)
    · replace h := od_pos h h2
      refine wq_aload_n rfl rfl rfl ?_
      refine xm_getR (v := 36893488147419103243) (q := 56) rfl rfl (by decide) (by decide) (hT.r (k := 56) 1 10 rfl (by decide) rfl) ?_
      refine wq_aload_n rfl rfl rfl ?_
      refine xm_getR (v := 36893488147419103289) (q := 56) rfl rfl (by decide) (by decide) (hT.r (k := 56) 0 56 rfl (by decide) rfl) ?_
      refine xm_getI (q := 57) rfl rfl (by decide) (by decide) ?_
      obtain ⟨y3, e4, h⟩ := od_bindE h
      refine wd_virtI (q := 11) (y := y3) (as := [36893488147419103243, F 57 6]) rfl rfl rfl (by decide) (Nat.le_of_ble_eq_true rfl) (Nat.le_of_ble_eq_true rfl) rfl (Nat.le_of_ble_eq_true rfl) rfl (dkT_57 hT (hT.i (k := 57) 6 rfl (by decide) rfl) e4) (fun p5 T6 => ?_)
      refine wq_istore_n rfl p5 (Nat.le_of_ble_eq_true rfl) (Or.inr ⟨_, rfl, (wq_notL (wm_zlt ha1))⟩) (L' := [36893488147419103288, a0, a1, y3.1, 73786976294838206464, 73786976294838206464]) rfl ?_
      refine wq_aload_n rfl rfl rfl ?_
      refine wq_bipush rfl rfl ?_
      refine wq_iload_n rfl rfl p5 ?_
      refine wq_iconst rfl rfl ?_
      refine wq_aload_n rfl rfl rfl ?_
      refine xm_getR (v := 36893488147419103289) (q := 56) rfl rfl (by decide) (by decide) (T6.r (k := 56) 0 56 rfl (by decide) rfl) ?_
      refine xm_getI (q := 57) rfl rfl (by decide) (by decide) ?_
      obtain ⟨y7, e8, h⟩ := od_bindE h
      refine wd_virtI (q := 56) (y := y7) (as := [36893488147419103288, 18, y3.1, 4294967295, y3.2 57 6]) rfl rfl rfl (by decide) (Nat.le_of_ble_eq_true rfl) (Nat.le_of_ble_eq_true rfl) rfl (Nat.le_of_ble_eq_true rfl) rfl (dkT_78 T6 (by decide) p5 (by decide) (T6.i (k := 57) 6 rfl (by decide) rfl) e8) (fun p9 T10 => ?_)
      refine wq_istore rfl p9 (Nat.le_of_ble_eq_true rfl) (Or.inr ⟨_, rfl, (wq_notL p5)⟩) (L' := [36893488147419103288, a0, a1, y3.1, y7.1, 73786976294838206464]) rfl ?_
      refine wq_aload_n rfl rfl rfl ?_
      refine xm_getR (v := 36893488147419103243) (q := 56) rfl rfl (by decide) (by decide) (T10.r (k := 56) 1 10 rfl (by decide) rfl) ?_
      refine xm_getR (v := 36893488147419103249) (q := 11) rfl rfl (by decide) (by decide) (T10.r (k := 11) 7 16 rfl (by decide) rfl) ?_
      refine wq_iload_n rfl rfl p5 ?_
      refine wq_aload_n rfl rfl rfl ?_
      refine xm_getR (v := 36893488147419103243) (q := 56) rfl rfl (by decide) (by decide) (T10.r (k := 56) 1 10 rfl (by decide) rfl) ?_
      refine xm_getI (q := 11) rfl rfl (by decide) (by decide) ?_
      obtain ⟨g11, h⟩ := od_gE h
      obtain ⟨F12, e13, h⟩ := od_upE h
      refine wd_iastore (q := 17) (n := 50) rfl rfl (by decide) g11 (by decide) (T10.i (k := 11) 4 rfl (by decide) rfl) e13 ?_
      have T14 : xm_T F12 := wd_T e13 (T10.ua (k := 17) (kd := 1000) (n := 50) (i := y3.1) (v := y7.2 11 4) rfl (by decide) g11 (show y7.2 11 4 < 4294967296 from (T10.i (k := 11) 4 rfl (by decide) rfl)))
      refine wq_aload_n rfl rfl rfl ?_
      refine xm_getR (v := 36893488147419103291) (q := 56) rfl rfl (by decide) (by decide) (T14.r (k := 56) 3 58 rfl (by decide) rfl) ?_
      refine wq_iload_n rfl rfl p5 ?_
      obtain ⟨y15, e16, h⟩ := od_bindE h
      refine wd_virtN (q := 59) (y := y15) (as := [36893488147419103291, y3.1]) rfl rfl rfl (by decide) (Nat.le_of_ble_eq_true rfl) (Nat.le_of_ble_eq_true rfl) rfl (Nat.le_of_ble_eq_true rfl) rfl (dkT_83 T14 p5 e16) (fun T18 => ?_)
      refine wq_aload_n rfl rfl rfl ?_
      refine xm_getR (v := 36893488147419103291) (q := 56) rfl rfl (by decide) (by decide) (T18.r (k := 56) 3 58 rfl (by decide) rfl) ?_
      refine xm_getI (q := 59) rfl rfl (by decide) (by decide) ?_
      refine wq_istore rfl (T18.i (k := 59) 3 rfl (by decide) rfl) (Nat.le_of_ble_eq_true rfl) (Or.inr ⟨_, rfl, (wq_notL p9)⟩) (L' := [36893488147419103288, a0, a1, y3.1, y7.1, y15.2 59 3]) rfl ?_
      refine wq_iload_n rfl rfl (wm_zlt ha1) ?_
      refine wq_if_eq rfl rfl (wm_zlt ha1) (fun h19 => ?_) (fun h19 => ?_)
      · replace h := od_pos h h19
        exact dk_155_117T hR T18 ha0 p5 p9 (T18.i (k := 59) 3 rfl (by decide) rfl) (wq_notL (wm_zlt ha1)) h
      · replace h := od_neg h h19
        refine wq_aload_n rfl rfl rfl ?_
        refine xm_getR (v := 36893488147419103291) (q := 56) rfl rfl (by decide) (by decide) (T18.r (k := 56) 3 58 rfl (by decide) rfl) ?_
        refine wq_aload_n rfl rfl rfl ?_
        refine xm_getI (q := 56) rfl rfl (by decide) (by decide) ?_
        obtain ⟨y20, e21, h⟩ := od_bindE h
        refine wd_virtZ (q := 59) (y := y20) (as := [36893488147419103291, y15.2 56 12]) rfl rfl rfl (by decide) (Nat.le_of_ble_eq_true rfl) (Nat.le_of_ble_eq_true rfl) rfl (Nat.le_of_ble_eq_true rfl) rfl (dkT_166 T18 (T18.i (k := 56) 12 rfl (by decide) rfl) e21) (fun p22 T23 => ?_)
        refine wq_pop rfl (wq_notL (wm_zlt p22)) ?_
        exact dk_155_117T hR T23 ha0 p5 p9 (T18.i (k := 59) 3 rfl (by decide) rfl) (wq_notL (wm_zlt ha1)) h
    · replace h := od_neg h (Nat.not_lt.mpr h2)
      refine wq_aload_n rfl rfl rfl ?_
      refine wq_iconst rfl rfl ?_
      obtain ⟨y24, e25, h⟩ := od_bindE h
      refine wd_virtN (q := 56) (y := y24) (as := [36893488147419103288, 3]) rfl rfl rfl (by decide) (Nat.le_of_ble_eq_true rfl) (Nat.le_of_ble_eq_true rfl) rfl (Nat.le_of_ble_eq_true rfl) rfl (dkT_109 hT (by decide) e25) (fun T27 => ?_)
      exact wq_ret rfl (wkON h T27)
  · replace h := od_neg h h1
    refine wq_aload_n rfl rfl rfl ?_
    refine wq_iconst rfl rfl ?_
    obtain ⟨y28, e29, h⟩ := od_bindE h
    refine wd_virtN (q := 56) (y := y28) (as := [36893488147419103288, 2]) rfl rfl rfl (by decide) (Nat.le_of_ble_eq_true rfl) (Nat.le_of_ble_eq_true rfl) rfl (Nat.le_of_ble_eq_true rfl) rfl (dkT_109 hT (by decide) e29) (fun T31 => ?_)
    exact wq_ret rfl (wkON h T31)
def dk_Rb (n : Nat) (R : dk_Rt) : dk_Rt := fun i as F => if i = 80 then dk_80 R n F (as.getD 0 0) else if i = 115 then dk_115 R n F (as.getD 0 0) else if i = 116 then dk_116 R n F (as.getD 0 0) else if i = 117 then dk_117 R n F (as.getD 0 0) else if i = 119 then dk_119 R n F (as.getD 0 0) else if i = 121 then dk_121 R n F (as.getD 0 0) else if i = 122 then dk_122 R n F (as.getD 0 0) else if i = 123 then dk_123 R n F (as.getD 0 0) else if i = 126 then dk_126 R n F (as.getD 0 0) else if i = 127 then dk_127 R n F (as.getD 0 0) (as.getD 1 0) (as.getD 2 0) else if i = 128 then dk_128 R n F (as.getD 0 0) (as.getD 1 0) else if i = 130 then dk_130 R n F (as.getD 0 0) else if i = 131 then dk_131 R n F (as.getD 0 0) else if i = 137 then dk_137 R n F (as.getD 0 0) else if i = 138 then dk_138 R n F (as.getD 0 0) else if i = 139 then dk_139 R n F (as.getD 0 0) (as.getD 1 0) else if i = 140 then dk_140 R n F (as.getD 0 0) else if i = 141 then dk_141 R n F (as.getD 0 0) (as.getD 1 0) else if i = 144 then dk_144 R n F (as.getD 0 0) else if i = 148 then dk_148 R n F (as.getD 0 0) (as.getD 1 0) else if i = 149 then dk_149 R n F (as.getD 0 0) else if i = 150 then dk_150 R n F (as.getD 0 0) else if i = 151 then dk_151 R n F (as.getD 0 0) else if i = 153 then dk_153 R n F (as.getD 0 0) else if i = 154 then dk_154 R n F (as.getD 0 0) (as.getD 1 0) (as.getD 2 0) else if i = 155 then dk_155 R n F (as.getD 0 0) (as.getD 1 0) else none
def dk_R (n : Nat) : Nat → dk_Rt
  | 0 => fun _ _ _ => none
  | g + 1 => dk_Rb n (dk_R n g)
theorem dk_Re_80 {n g : Nat} {F : wq_F} {a0 : Nat} : dk_R n (g + 1) 80 [a0] F = dk_80 (dk_R n g) n F a0 := by
  show dk_Rb n (dk_R n g) 80 [a0] F = _
  unfold dk_Rb
  rw [if_pos rfl]
  rfl
theorem dk_Re_115 {n g : Nat} {F : wq_F} {a0 : Nat} : dk_R n (g + 1) 115 [a0] F = dk_115 (dk_R n g) n F a0 := by
  show dk_Rb n (dk_R n g) 115 [a0] F = _
  unfold dk_Rb
  rw [if_neg (show ¬ (115 : Nat) = 80 by decide), if_pos rfl]
  rfl
theorem dk_Re_116 {n g : Nat} {F : wq_F} {a0 : Nat} : dk_R n (g + 1) 116 [a0] F = dk_116 (dk_R n g) n F a0 := by
  show dk_Rb n (dk_R n g) 116 [a0] F = _
  unfold dk_Rb
  rw [if_neg (show ¬ (116 : Nat) = 80 by decide), if_neg (show ¬ (116 : Nat) = 115 by decide), if_pos rfl]
  rfl
theorem dk_Re_117 {n g : Nat} {F : wq_F} {a0 : Nat} : dk_R n (g + 1) 117 [a0] F = dk_117 (dk_R n g) n F a0 := by
  show dk_Rb n (dk_R n g) 117 [a0] F = _
  unfold dk_Rb
  rw [if_neg (show ¬ (117 : Nat) = 80 by decide), if_neg (show ¬ (117 : Nat) = 115 by decide), if_neg (show ¬ (117 : Nat) = 116 by decide), if_pos rfl]
  rfl
theorem dk_Re_119 {n g : Nat} {F : wq_F} {a0 : Nat} : dk_R n (g + 1) 119 [a0] F = dk_119 (dk_R n g) n F a0 := by
  show dk_Rb n (dk_R n g) 119 [a0] F = _
  unfold dk_Rb
  rw [if_neg (show ¬ (119 : Nat) = 80 by decide), if_neg (show ¬ (119 : Nat) = 115 by decide), if_neg (show ¬ (119 : Nat) = 116 by decide), if_neg (show ¬ (119 : Nat) = 117 by decide), if_pos rfl]
  rfl
theorem dk_Re_121 {n g : Nat} {F : wq_F} {a0 : Nat} : dk_R n (g + 1) 121 [a0] F = dk_121 (dk_R n g) n F a0 := by
  show dk_Rb n (dk_R n g) 121 [a0] F = _
  unfold dk_Rb
  rw [if_neg (show ¬ (121 : Nat) = 80 by decide), if_neg (show ¬ (121 : Nat) = 115 by decide), if_neg (show ¬ (121 : Nat) = 116 by decide), if_neg (show ¬ (121 : Nat) = 117 by decide), if_neg (show ¬ (121 : Nat) = 119 by decide), if_pos rfl]
  rfl
theorem dk_Re_122 {n g : Nat} {F : wq_F} {a0 : Nat} : dk_R n (g + 1) 122 [a0] F = dk_122 (dk_R n g) n F a0 := by
  show dk_Rb n (dk_R n g) 122 [a0] F = _
  unfold dk_Rb
  rw [if_neg (show ¬ (122 : Nat) = 80 by decide), if_neg (show ¬ (122 : Nat) = 115 by decide), if_neg (show ¬ (122 : Nat) = 116 by decide), if_neg (show ¬ (122 : Nat) = 117 by decide), if_neg (show ¬ (122 : Nat) = 119 by decide), if_neg (show ¬ (122 : Nat) = 121 by decide), if_pos rfl]
  rfl
theorem dk_Re_123 {n g : Nat} {F : wq_F} {a0 : Nat} : dk_R n (g + 1) 123 [a0] F = dk_123 (dk_R n g) n F a0 := by
  show dk_Rb n (dk_R n g) 123 [a0] F = _
  unfold dk_Rb
  rw [if_neg (show ¬ (123 : Nat) = 80 by decide), if_neg (show ¬ (123 : Nat) = 115 by decide), if_neg (show ¬ (123 : Nat) = 116 by decide), if_neg (show ¬ (123 : Nat) = 117 by decide), if_neg (show ¬ (123 : Nat) = 119 by decide), if_neg (show ¬ (123 : Nat) = 121 by decide), if_neg (show ¬ (123 : Nat) = 122 by decide), if_pos rfl]
  rfl
theorem dk_Re_126 {n g : Nat} {F : wq_F} {a0 : Nat} : dk_R n (g + 1) 126 [a0] F = dk_126 (dk_R n g) n F a0 := by
  show dk_Rb n (dk_R n g) 126 [a0] F = _
  unfold dk_Rb
  rw [if_neg (show ¬ (126 : Nat) = 80 by decide), if_neg (show ¬ (126 : Nat) = 115 by decide), if_neg (show ¬ (126 : Nat) = 116 by decide), if_neg (show ¬ (126 : Nat) = 117 by decide), if_neg (show ¬ (126 : Nat) = 119 by decide), if_neg (show ¬ (126 : Nat) = 121 by decide), if_neg (show ¬ (126 : Nat) = 122 by decide), if_neg (show ¬ (126 : Nat) = 123 by decide), if_pos rfl]
  rfl
theorem dk_Re_127 {n g : Nat} {F : wq_F} {a0 a1 a2 : Nat} : dk_R n (g + 1) 127 [a0, a1, a2] F = dk_127 (dk_R n g) n F a0 a1 a2 := by
  show dk_Rb n (dk_R n g) 127 [a0, a1, a2] F = _
  unfold dk_Rb
  rw [if_neg (show ¬ (127 : Nat) = 80 by decide), if_neg (show ¬ (127 : Nat) = 115 by decide), if_neg (show ¬ (127 : Nat) = 116 by decide), if_neg (show ¬ (127 : Nat) = 117 by decide), if_neg (show ¬ (127 : Nat) = 119 by decide), if_neg (show ¬ (127 : Nat) = 121 by decide), if_neg (show ¬ (127 : Nat) = 122 by decide), if_neg (show ¬ (127 : Nat) = 123 by decide), if_neg (show ¬ (127 : Nat) = 126 by decide), if_pos rfl]
  rfl
theorem dk_Re_128 {n g : Nat} {F : wq_F} {a0 a1 : Nat} : dk_R n (g + 1) 128 [a0, a1] F = dk_128 (dk_R n g) n F a0 a1 := by
  show dk_Rb n (dk_R n g) 128 [a0, a1] F = _
  unfold dk_Rb
  rw [if_neg (show ¬ (128 : Nat) = 80 by decide), if_neg (show ¬ (128 : Nat) = 115 by decide), if_neg (show ¬ (128 : Nat) = 116 by decide), if_neg (show ¬ (128 : Nat) = 117 by decide), if_neg (show ¬ (128 : Nat) = 119 by decide), if_neg (show ¬ (128 : Nat) = 121 by decide), if_neg (show ¬ (128 : Nat) = 122 by decide), if_neg (show ¬ (128 : Nat) = 123 by decide), if_neg (show ¬ (128 : Nat) = 126 by decide), if_neg (show ¬ (128 : Nat) = 127 by decide), if_pos rfl]
  rfl
theorem dk_Re_130 {n g : Nat} {F : wq_F} {a0 : Nat} : dk_R n (g + 1) 130 [a0] F = dk_130 (dk_R n g) n F a0 := by
  show dk_Rb n (dk_R n g) 130 [a0] F = _
  unfold dk_Rb
  rw [if_neg (show ¬ (130 : Nat) = 80 by decide), if_neg (show ¬ (130 : Nat) = 115 by decide), if_neg (show ¬ (130 : Nat) = 116 by decide), if_neg (show ¬ (130 : Nat) = 117 by decide), if_neg (show ¬ (130 : Nat) = 119 by decide), if_neg (show ¬ (130 : Nat) = 121 by decide), if_neg (show ¬ (130 : Nat) = 122 by decide), if_neg (show ¬ (130 : Nat) = 123 by decide), if_neg (show ¬ (130 : Nat) = 126 by decide), if_neg (show ¬ (130 : Nat) = 127 by decide), if_neg (show ¬ (130 : Nat) = 128 by decide), if_pos rfl]
  rfl
theorem dk_Re_131 {n g : Nat} {F : wq_F} {a0 : Nat} : dk_R n (g + 1) 131 [a0] F = dk_131 (dk_R n g) n F a0 := by
  show dk_Rb n (dk_R n g) 131 [a0] F = _
  unfold dk_Rb
  rw [if_neg (show ¬ (131 : Nat) = 80 by decide), if_neg (show ¬ (131 : Nat) = 115 by decide), if_neg (show ¬ (131 : Nat) = 116 by decide), if_neg (show ¬ (131 : Nat) = 117 by decide), if_neg (show ¬ (131 : Nat) = 119 by decide), if_neg (show ¬ (131 : Nat) = 121 by decide), if_neg (show ¬ (131 : Nat) = 122 by decide), if_neg (show ¬ (131 : Nat) = 123 by decide), if_neg (show ¬ (131 : Nat) = 126 by decide), if_neg (show ¬ (131 : Nat) = 127 by decide), if_neg (show ¬ (131 : Nat) = 128 by decide), if_neg (show ¬ (131 : Nat) = 130 by decide), if_pos rfl]
  rfl
theorem dk_Re_137 {n g : Nat} {F : wq_F} {a0 : Nat} : dk_R n (g + 1) 137 [a0] F = dk_137 (dk_R n g) n F a0 := by
  show dk_Rb n (dk_R n g) 137 [a0] F = _
  unfold dk_Rb
  rw [if_neg (show ¬ (137 : Nat) = 80 by decide), if_neg (show ¬ (137 : Nat) = 115 by decide), if_neg (show ¬ (137 : Nat) = 116 by decide), if_neg (show ¬ (137 : Nat) = 117 by decide), if_neg (show ¬ (137 : Nat) = 119 by decide), if_neg (show ¬ (137 : Nat) = 121 by decide), if_neg (show ¬ (137 : Nat) = 122 by decide), if_neg (show ¬ (137 : Nat) = 123 by decide), if_neg (show ¬ (137 : Nat) = 126 by decide), if_neg (show ¬ (137 : Nat) = 127 by decide), if_neg (show ¬ (137 : Nat) = 128 by decide), if_neg (show ¬ (137 : Nat) = 130 by decide), if_neg (show ¬ (137 : Nat) = 131 by decide), if_pos rfl]
  rfl
theorem dk_Re_138 {n g : Nat} {F : wq_F} {a0 : Nat} : dk_R n (g + 1) 138 [a0] F = dk_138 (dk_R n g) n F a0 := by
  show dk_Rb n (dk_R n g) 138 [a0] F = _
  unfold dk_Rb
  rw [if_neg (show ¬ (138 : Nat) = 80 by decide), if_neg (show ¬ (138 : Nat) = 115 by decide), if_neg (show ¬ (138 : Nat) = 116 by decide), if_neg (show ¬ (138 : Nat) = 117 by decide), if_neg (show ¬ (138 : Nat) = 119 by decide), if_neg (show ¬ (138 : Nat) = 121 by decide), if_neg (show ¬ (138 : Nat) = 122 by decide), if_neg (show ¬ (138 : Nat) = 123 by decide), if_neg (show ¬ (138 : Nat) = 126 by decide), if_neg (show ¬ (138 : Nat) = 127 by decide), if_neg (show ¬ (138 : Nat) = 128 by decide), if_neg (show ¬ (138 : Nat) = 130 by decide), if_neg (show ¬ (138 : Nat) = 131 by decide), if_neg (show ¬ (138 : Nat) = 137 by decide), if_pos rfl]
  rfl
theorem dk_Re_139 {n g : Nat} {F : wq_F} {a0 a1 : Nat} : dk_R n (g + 1) 139 [a0, a1] F = dk_139 (dk_R n g) n F a0 a1 := by
  show dk_Rb n (dk_R n g) 139 [a0, a1] F = _
  unfold dk_Rb
  rw [if_neg (show ¬ (139 : Nat) = 80 by decide), if_neg (show ¬ (139 : Nat) = 115 by decide), if_neg (show ¬ (139 : Nat) = 116 by decide), if_neg (show ¬ (139 : Nat) = 117 by decide), if_neg (show ¬ (139 : Nat) = 119 by decide), if_neg (show ¬ (139 : Nat) = 121 by decide), if_neg (show ¬ (139 : Nat) = 122 by decide), if_neg (show ¬ (139 : Nat) = 123 by decide), if_neg (show ¬ (139 : Nat) = 126 by decide), if_neg (show ¬ (139 : Nat) = 127 by decide), if_neg (show ¬ (139 : Nat) = 128 by decide), if_neg (show ¬ (139 : Nat) = 130 by decide), if_neg (show ¬ (139 : Nat) = 131 by decide), if_neg (show ¬ (139 : Nat) = 137 by decide), if_neg (show ¬ (139 : Nat) = 138 by decide), if_pos rfl]
  rfl
theorem dk_Re_140 {n g : Nat} {F : wq_F} {a0 : Nat} : dk_R n (g + 1) 140 [a0] F = dk_140 (dk_R n g) n F a0 := by
  show dk_Rb n (dk_R n g) 140 [a0] F = _
  unfold dk_Rb
  rw [if_neg (show ¬ (140 : Nat) = 80 by decide), if_neg (show ¬ (140 : Nat) = 115 by decide), if_neg (show ¬ (140 : Nat) = 116 by decide), if_neg (show ¬ (140 : Nat) = 117 by decide), if_neg (show ¬ (140 : Nat) = 119 by decide), if_neg (show ¬ (140 : Nat) = 121 by decide), if_neg (show ¬ (140 : Nat) = 122 by decide), if_neg (show ¬ (140 : Nat) = 123 by decide), if_neg (show ¬ (140 : Nat) = 126 by decide), if_neg (show ¬ (140 : Nat) = 127 by decide), if_neg (show ¬ (140 : Nat) = 128 by decide), if_neg (show ¬ (140 : Nat) = 130 by decide), if_neg (show ¬ (140 : Nat) = 131 by decide), if_neg (show ¬ (140 : Nat) = 137 by decide), if_neg (show ¬ (140 : Nat) = 138 by decide), if_neg (show ¬ (140 : Nat) = 139 by decide), if_pos rfl]
  rfl
theorem dk_Re_141 {n g : Nat} {F : wq_F} {a0 a1 : Nat} : dk_R n (g + 1) 141 [a0, a1] F = dk_141 (dk_R n g) n F a0 a1 := by
  show dk_Rb n (dk_R n g) 141 [a0, a1] F = _
  unfold dk_Rb
  rw [if_neg (show ¬ (141 : Nat) = 80 by decide), if_neg (show ¬ (141 : Nat) = 115 by decide), if_neg (show ¬ (141 : Nat) = 116 by decide), if_neg (show ¬ (141 : Nat) = 117 by decide), if_neg (show ¬ (141 : Nat) = 119 by decide), if_neg (show ¬ (141 : Nat) = 121 by decide), if_neg (show ¬ (141 : Nat) = 122 by decide), if_neg (show ¬ (141 : Nat) = 123 by decide), if_neg (show ¬ (141 : Nat) = 126 by decide), if_neg (show ¬ (141 : Nat) = 127 by decide), if_neg (show ¬ (141 : Nat) = 128 by decide), if_neg (show ¬ (141 : Nat) = 130 by decide), if_neg (show ¬ (141 : Nat) = 131 by decide), if_neg (show ¬ (141 : Nat) = 137 by decide), if_neg (show ¬ (141 : Nat) = 138 by decide), if_neg (show ¬ (141 : Nat) = 139 by decide), if_neg (show ¬ (141 : Nat) = 140 by decide), if_pos rfl]
  rfl
theorem dk_Re_144 {n g : Nat} {F : wq_F} {a0 : Nat} : dk_R n (g + 1) 144 [a0] F = dk_144 (dk_R n g) n F a0 := by
  show dk_Rb n (dk_R n g) 144 [a0] F = _
  unfold dk_Rb
  rw [if_neg (show ¬ (144 : Nat) = 80 by decide), if_neg (show ¬ (144 : Nat) = 115 by decide), if_neg (show ¬ (144 : Nat) = 116 by decide), if_neg (show ¬ (144 : Nat) = 117 by decide), if_neg (show ¬ (144 : Nat) = 119 by decide), if_neg (show ¬ (144 : Nat) = 121 by decide), if_neg (show ¬ (144 : Nat) = 122 by decide), if_neg (show ¬ (144 : Nat) = 123 by decide), if_neg (show ¬ (144 : Nat) = 126 by decide), if_neg (show ¬ (144 : Nat) = 127 by decide), if_neg (show ¬ (144 : Nat) = 128 by decide), if_neg (show ¬ (144 : Nat) = 130 by decide), if_neg (show ¬ (144 : Nat) = 131 by decide), if_neg (show ¬ (144 : Nat) = 137 by decide), if_neg (show ¬ (144 : Nat) = 138 by decide), if_neg (show ¬ (144 : Nat) = 139 by decide), if_neg (show ¬ (144 : Nat) = 140 by decide), if_neg (show ¬ (144 : Nat) = 141 by decide), if_pos rfl]
  rfl
theorem dk_Re_148 {n g : Nat} {F : wq_F} {a0 a1 : Nat} : dk_R n (g + 1) 148 [a0, a1] F = dk_148 (dk_R n g) n F a0 a1 := by
  show dk_Rb n (dk_R n g) 148 [a0, a1] F = _
  unfold dk_Rb
  rw [if_neg (show ¬ (148 : Nat) = 80 by decide), if_neg (show ¬ (148 : Nat) = 115 by decide), if_neg (show ¬ (148 : Nat) = 116 by decide), if_neg (show ¬ (148 : Nat) = 117 by decide), if_neg (show ¬ (148 : Nat) = 119 by decide), if_neg (show ¬ (148 : Nat) = 121 by decide), if_neg (show ¬ (148 : Nat) = 122 by decide), if_neg (show ¬ (148 : Nat) = 123 by decide), if_neg (show ¬ (148 : Nat) = 126 by decide), if_neg (show ¬ (148 : Nat) = 127 by decide), if_neg (show ¬ (148 : Nat) = 128 by decide), if_neg (show ¬ (148 : Nat) = 130 by decide), if_neg (show ¬ (148 : Nat) = 131 by decide), if_neg (show ¬ (148 : Nat) = 137 by decide), if_neg (show ¬ (148 : Nat) = 138 by decide), if_neg (show ¬ (148 : Nat) = 139 by decide), if_neg (show ¬ (148 : Nat) = 140 by decide), if_neg (show ¬ (148 : Nat) = 141 by decide), if_neg (show ¬ (148 : Nat) = 144 by decide), if_pos rfl]
  rfl
theorem dk_Re_149 {n g : Nat} {F : wq_F} {a0 : Nat} : dk_R n (g + 1) 149 [a0] F = dk_149 (dk_R n g) n F a0 := by
  show dk_Rb n (dk_R n g) 149 [a0] F = _
  unfold dk_Rb
  rw [if_neg (show ¬ (149 : Nat) = 80 by decide), if_neg (show ¬ (149 : Nat) = 115 by decide), if_neg (show ¬ (149 : Nat) = 116 by decide), if_neg (show ¬ (149 : Nat) = 117 by decide), if_neg (show ¬ (149 : Nat) = 119 by decide), if_neg (show ¬ (149 : Nat) = 121 by decide), if_neg (show ¬ (149 : Nat) = 122 by decide), if_neg (show ¬ (149 : Nat) = 123 by decide), if_neg (show ¬ (149 : Nat) = 126 by decide), if_neg (show ¬ (149 : Nat) = 127 by decide), if_neg (show ¬ (149 : Nat) = 128 by decide), if_neg (show ¬ (149 : Nat) = 130 by decide), if_neg (show ¬ (149 : Nat) = 131 by decide), if_neg (show ¬ (149 : Nat) = 137 by decide), if_neg (show ¬ (149 : Nat) = 138 by decide), if_neg (show ¬ (149 : Nat) = 139 by decide), if_neg (show ¬ (149 : Nat) = 140 by decide), if_neg (show ¬ (149 : Nat) = 141 by decide), if_neg (show ¬ (149 : Nat) = 144 by decide), if_neg (show ¬ (149 : Nat) = 148 by decide), if_pos rfl]
  rfl
theorem dk_Re_150 {n g : Nat} {F : wq_F} {a0 : Nat} : dk_R n (g + 1) 150 [a0] F = dk_150 (dk_R n g) n F a0 := by
  show dk_Rb n (dk_R n g) 150 [a0] F = _
  unfold dk_Rb
  rw [if_neg (show ¬ (150 : Nat) = 80 by decide), if_neg (show ¬ (150 : Nat) = 115 by decide), if_neg (show ¬ (150 : Nat) = 116 by decide), if_neg (show ¬ (150 : Nat) = 117 by decide), if_neg (show ¬ (150 : Nat) = 119 by decide), if_neg (show ¬ (150 : Nat) = 121 by decide), if_neg (show ¬ (150 : Nat) = 122 by decide), if_neg (show ¬ (150 : Nat) = 123 by decide), if_neg (show ¬ (150 : Nat) = 126 by decide), if_neg (show ¬ (150 : Nat) = 127 by decide), if_neg (show ¬ (150 : Nat) = 128 by decide), if_neg (show ¬ (150 : Nat) = 130 by decide), if_neg (show ¬ (150 : Nat) = 131 by decide), if_neg (show ¬ (150 : Nat) = 137 by decide), if_neg (show ¬ (150 : Nat) = 138 by decide), if_neg (show ¬ (150 : Nat) = 139 by decide), if_neg (show ¬ (150 : Nat) = 140 by decide), if_neg (show ¬ (150 : Nat) = 141 by decide), if_neg (show ¬ (150 : Nat) = 144 by decide), if_neg (show ¬ (150 : Nat) = 148 by decide), if_neg (show ¬ (150 : Nat) = 149 by decide), if_pos rfl]
  rfl
theorem dk_Re_151 {n g : Nat} {F : wq_F} {a0 : Nat} : dk_R n (g + 1) 151 [a0] F = dk_151 (dk_R n g) n F a0 := by
  show dk_Rb n (dk_R n g) 151 [a0] F = _
  unfold dk_Rb
  rw [if_neg (show ¬ (151 : Nat) = 80 by decide), if_neg (show ¬ (151 : Nat) = 115 by decide), if_neg (show ¬ (151 : Nat) = 116 by decide), if_neg (show ¬ (151 : Nat) = 117 by decide), if_neg (show ¬ (151 : Nat) = 119 by decide), if_neg (show ¬ (151 : Nat) = 121 by decide), if_neg (show ¬ (151 : Nat) = 122 by decide), if_neg (show ¬ (151 : Nat) = 123 by decide), if_neg (show ¬ (151 : Nat) = 126 by decide), if_neg (show ¬ (151 : Nat) = 127 by decide), if_neg (show ¬ (151 : Nat) = 128 by decide), if_neg (show ¬ (151 : Nat) = 130 by decide), if_neg (show ¬ (151 : Nat) = 131 by decide), if_neg (show ¬ (151 : Nat) = 137 by decide), if_neg (show ¬ (151 : Nat) = 138 by decide), if_neg (show ¬ (151 : Nat) = 139 by decide), if_neg (show ¬ (151 : Nat) = 140 by decide), if_neg (show ¬ (151 : Nat) = 141 by decide), if_neg (show ¬ (151 : Nat) = 144 by decide), if_neg (show ¬ (151 : Nat) = 148 by decide), if_neg (show ¬ (151 : Nat) = 149 by decide), if_neg (show ¬ (151 : Nat) = 150 by decide), if_pos rfl]
  rfl
theorem dk_Re_153 {n g : Nat} {F : wq_F} {a0 : Nat} : dk_R n (g + 1) 153 [a0] F = dk_153 (dk_R n g) n F a0 := by
  show dk_Rb n (dk_R n g) 153 [a0] F = _
  unfold dk_Rb
  rw [if_neg (show ¬ (153 : Nat) = 80 by decide), if_neg (show ¬ (153 : Nat) = 115 by decide), if_neg (show ¬ (153 : Nat) = 116 by decide), if_neg (show ¬ (153 : Nat) = 117 by decide), if_neg (show ¬ (153 : Nat) = 119 by decide), if_neg (show ¬ (153 : Nat) = 121 by decide), if_neg (show ¬ (153 : Nat) = 122 by decide), if_neg (show ¬ (153 : Nat) = 123 by decide), if_neg (show ¬ (153 : Nat) = 126 by decide), if_neg (show ¬ (153 : Nat) = 127 by decide), if_neg (show ¬ (153 : Nat) = 128 by decide), if_neg (show ¬ (153 : Nat) = 130 by decide), if_neg (show ¬ (153 : Nat) = 131 by decide), if_neg (show ¬ (153 : Nat) = 137 by decide), if_neg (show ¬ (153 : Nat) = 138 by decide), if_neg (show ¬ (153 : Nat) = 139 by decide), if_neg (show ¬ (153 : Nat) = 140 by decide), if_neg (show ¬ (153 : Nat) = 141 by decide), if_neg (show ¬ (153 : Nat) = 144 by decide), if_neg (show ¬ (153 : Nat) = 148 by decide), if_neg (show ¬ (153 : Nat) = 149 by decide), if_neg (show ¬ (153 : Nat) = 150 by decide), if_neg (show ¬ (153 : Nat) = 151 by decide), if_pos rfl]
  rfl
theorem dk_Re_154 {n g : Nat} {F : wq_F} {a0 a1 a2 : Nat} : dk_R n (g + 1) 154 [a0, a1, a2] F = dk_154 (dk_R n g) n F a0 a1 a2 := by
  show dk_Rb n (dk_R n g) 154 [a0, a1, a2] F = _
  unfold dk_Rb
  rw [if_neg (show ¬ (154 : Nat) = 80 by decide), if_neg (show ¬ (154 : Nat) = 115 by decide), if_neg (show ¬ (154 : Nat) = 116 by decide), if_neg (show ¬ (154 : Nat) = 117 by decide), if_neg (show ¬ (154 : Nat) = 119 by decide), if_neg (show ¬ (154 : Nat) = 121 by decide), if_neg (show ¬ (154 : Nat) = 122 by decide), if_neg (show ¬ (154 : Nat) = 123 by decide), if_neg (show ¬ (154 : Nat) = 126 by decide), if_neg (show ¬ (154 : Nat) = 127 by decide), if_neg (show ¬ (154 : Nat) = 128 by decide), if_neg (show ¬ (154 : Nat) = 130 by decide), if_neg (show ¬ (154 : Nat) = 131 by decide), if_neg (show ¬ (154 : Nat) = 137 by decide), if_neg (show ¬ (154 : Nat) = 138 by decide), if_neg (show ¬ (154 : Nat) = 139 by decide), if_neg (show ¬ (154 : Nat) = 140 by decide), if_neg (show ¬ (154 : Nat) = 141 by decide), if_neg (show ¬ (154 : Nat) = 144 by decide), if_neg (show ¬ (154 : Nat) = 148 by decide), if_neg (show ¬ (154 : Nat) = 149 by decide), if_neg (show ¬ (154 : Nat) = 150 by decide), if_neg (show ¬ (154 : Nat) = 151 by decide), if_neg (show ¬ (154 : Nat) = 153 by decide), if_pos rfl]
  rfl
theorem dk_Re_155 {n g : Nat} {F : wq_F} {a0 a1 : Nat} : dk_R n (g + 1) 155 [a0, a1] F = dk_155 (dk_R n g) n F a0 a1 := by
  show dk_Rb n (dk_R n g) 155 [a0, a1] F = _
  unfold dk_Rb
  rw [if_neg (show ¬ (155 : Nat) = 80 by decide), if_neg (show ¬ (155 : Nat) = 115 by decide), if_neg (show ¬ (155 : Nat) = 116 by decide), if_neg (show ¬ (155 : Nat) = 117 by decide), if_neg (show ¬ (155 : Nat) = 119 by decide), if_neg (show ¬ (155 : Nat) = 121 by decide), if_neg (show ¬ (155 : Nat) = 122 by decide), if_neg (show ¬ (155 : Nat) = 123 by decide), if_neg (show ¬ (155 : Nat) = 126 by decide), if_neg (show ¬ (155 : Nat) = 127 by decide), if_neg (show ¬ (155 : Nat) = 128 by decide), if_neg (show ¬ (155 : Nat) = 130 by decide), if_neg (show ¬ (155 : Nat) = 131 by decide), if_neg (show ¬ (155 : Nat) = 137 by decide), if_neg (show ¬ (155 : Nat) = 138 by decide), if_neg (show ¬ (155 : Nat) = 139 by decide), if_neg (show ¬ (155 : Nat) = 140 by decide), if_neg (show ¬ (155 : Nat) = 141 by decide), if_neg (show ¬ (155 : Nat) = 144 by decide), if_neg (show ¬ (155 : Nat) = 148 by decide), if_neg (show ¬ (155 : Nat) = 149 by decide), if_neg (show ¬ (155 : Nat) = 150 by decide), if_neg (show ¬ (155 : Nat) = 151 by decide), if_neg (show ¬ (155 : Nat) = 153 by decide), if_neg (show ¬ (155 : Nat) = 154 by decide), if_pos rfl]
  rfl
set_option maxRecDepth 20000 in
theorem dk_RT (n d : Nat) : ∀ g : Nat, dk_spec (d + g + 12) (dk_R n g)
  | 0 => ⟨(by
    intro F hT a0 ha0 x h
    cases h), (by
    intro F hT a0 ha0 x h
    cases h), (by
    intro F hT a0 ha0 x h
    cases h), (by
    intro F hT a0 ha0 x h
    cases h), (by
    intro F hT a0 ha0 x h
    cases h), (by
    intro F hT a0 ha0 x h
    cases h), (by
    intro F hT a0 ha0 x h
    cases h), (by
    intro F hT a0 ha0 x h
    cases h), (by
    intro F hT a0 ha0 x h
    cases h), (by
    intro F hT a0 ha0 a1 ha1 a2 ha2 x h
    cases h), (by
    intro F hT a0 ha0 a1 ha1 x h
    cases h), (by
    intro F hT a0 ha0 x h
    cases h), (by
    intro F hT a0 ha0 x h
    cases h), (by
    intro F hT a0 ha0 x h
    cases h), (by
    intro F hT a0 ha0 x h
    cases h), (by
    intro F hT a0 ha0 a1 ha1 x h
    cases h), (by
    intro F hT a0 ha0 x h
    cases h), (by
    intro F hT a0 ha0 a1 ha1 x h
    cases h), (by
    intro F hT a0 ha0 x h
    cases h), (by
    intro F hT a0 ha0 a1 ha1 x h
    cases h), (by
    intro F hT a0 ha0 x h
    cases h), (by
    intro F hT a0 ha0 x h
    cases h), (by
    intro F hT a0 ha0 x h
    cases h), (by
    intro F hT a0 ha0 x h
    cases h), (by
    intro F hT a0 ha0 a1 ha1 a2 ha2 x h
    cases h), (by
    intro F hT a0 ha0 a1 ha1 x h
    cases h)⟩
  | g + 1 => ⟨(by
    intro F hT a0 ha0 x h
    have q := dkT_80 (d := d + g) (n := n) (dk_RT n d g) hT ha0 (x := x) (dk_Re_80.symm.trans h)
    rw [show d + (g + 1) + 12 = d + g + 12 + 1 by omega]
    exact q), (by
    intro F hT a0 ha0 x h
    have q := dkT_115 (d := d + g) (n := n) (dk_RT n d g) hT ha0 (x := x) (dk_Re_115.symm.trans h)
    rw [show d + (g + 1) + 12 = d + g + 12 + 1 by omega]
    exact q), (by
    intro F hT a0 ha0 x h
    have q := dkT_116 (d := d + g) (n := n) (dk_RT n d g) hT ha0 (x := x) (dk_Re_116.symm.trans h)
    rw [show d + (g + 1) + 12 = d + g + 12 + 1 by omega]
    exact q), (by
    intro F hT a0 ha0 x h
    have q := dkT_117 (d := d + g) (n := n) (dk_RT n d g) hT ha0 (x := x) (dk_Re_117.symm.trans h)
    rw [show d + (g + 1) + 12 = d + g + 12 + 1 by omega]
    exact q), (by
    intro F hT a0 ha0 x h
    have q := dkT_119 (d := d + g) (n := n) (dk_RT n d g) hT ha0 (x := x) (dk_Re_119.symm.trans h)
    rw [show d + (g + 1) + 12 = d + g + 12 + 1 by omega]
    exact q), (by
    intro F hT a0 ha0 x h
    have q := dkT_121 (d := d + g) (n := n) (dk_RT n d g) hT ha0 (x := x) (dk_Re_121.symm.trans h)
    rw [show d + (g + 1) + 12 = d + g + 12 + 1 by omega]
    exact q), (by
    intro F hT a0 ha0 x h
    have q := dkT_122 (d := d + g) (n := n) (dk_RT n d g) hT ha0 (x := x) (dk_Re_122.symm.trans h)
    rw [show d + (g + 1) + 12 = d + g + 12 + 1 by omega]
    exact q), (by
    intro F hT a0 ha0 x h
    have q := dkT_123 (d := d + g) (n := n) (dk_RT n d g) hT ha0 (x := x) (dk_Re_123.symm.trans h)
    rw [show d + (g + 1) + 12 = d + g + 12 + 1 by omega]
    exact q), (by
    intro F hT a0 ha0 x h
    have q := dkT_126 (d := d + g) (n := n) (dk_RT n d g) hT ha0 (x := x) (dk_Re_126.symm.trans h)
    rw [show d + (g + 1) + 12 = d + g + 12 + 1 by omega]
    exact q), (by
    intro F hT a0 ha0 a1 ha1 a2 ha2 x h
    have q := dkT_127 (d := d + g) (n := n) (dk_RT n d g) hT ha0 ha1 ha2 (x := x) (dk_Re_127.symm.trans h)
    rw [show d + (g + 1) + 12 = d + g + 12 + 1 by omega]
    exact q), (by
    intro F hT a0 ha0 a1 ha1 x h
    have q := dkT_128 (d := d + g) (n := n) (dk_RT n d g) hT ha0 ha1 (x := x) (dk_Re_128.symm.trans h)
    rw [show d + (g + 1) + 12 = d + g + 12 + 1 by omega]
    exact q), (by
    intro F hT a0 ha0 x h
    have q := dkT_130 (d := d + g) (n := n) (dk_RT n d g) hT ha0 (x := x) (dk_Re_130.symm.trans h)
    rw [show d + (g + 1) + 12 = d + g + 12 + 1 by omega]
    exact q), (by
    intro F hT a0 ha0 x h
    have q := dkT_131 (d := d + g) (n := n) (dk_RT n d g) hT ha0 (x := x) (dk_Re_131.symm.trans h)
    rw [show d + (g + 1) + 12 = d + g + 12 + 1 by omega]
    exact q), (by
    intro F hT a0 ha0 x h
    have q := dkT_137 (d := d + g) (n := n) (dk_RT n d g) hT ha0 (x := x) (dk_Re_137.symm.trans h)
    rw [show d + (g + 1) + 12 = d + g + 12 + 1 by omega]
    exact q), (by
    intro F hT a0 ha0 x h
    have q := dkT_138 (d := d + g) (n := n) (dk_RT n d g) hT ha0 (x := x) (dk_Re_138.symm.trans h)
    rw [show d + (g + 1) + 12 = d + g + 12 + 1 by omega]
    exact q), (by
    intro F hT a0 ha0 a1 ha1 x h
    have q := dkT_139 (d := d + g) (n := n) (dk_RT n d g) hT ha0 ha1 (x := x) (dk_Re_139.symm.trans h)
    rw [show d + (g + 1) + 12 = d + g + 12 + 1 by omega]
    exact q), (by
    intro F hT a0 ha0 x h
    have q := dkT_140 (d := d + g) (n := n) (dk_RT n d g) hT ha0 (x := x) (dk_Re_140.symm.trans h)
    rw [show d + (g + 1) + 12 = d + g + 12 + 1 by omega]
    exact q), (by
    intro F hT a0 ha0 a1 ha1 x h
    have q := dkT_141 (d := d + g) (n := n) (dk_RT n d g) hT ha0 ha1 (x := x) (dk_Re_141.symm.trans h)
    rw [show d + (g + 1) + 12 = d + g + 12 + 1 by omega]
    exact q), (by
    intro F hT a0 ha0 x h
    have q := dkT_144 (d := d + g) (n := n) (dk_RT n d g) hT ha0 (x := x) (dk_Re_144.symm.trans h)
    rw [show d + (g + 1) + 12 = d + g + 12 + 1 by omega]
    exact q), (by
    intro F hT a0 ha0 a1 ha1 x h
    have q := dkT_148 (d := d + g) (n := n) (dk_RT n d g) hT ha0 ha1 (x := x) (dk_Re_148.symm.trans h)
    rw [show d + (g + 1) + 12 = d + g + 12 + 1 by omega]
    exact q), (by
    intro F hT a0 ha0 x h
    have q := dkT_149 (d := d + g) (n := n) (dk_RT n d g) hT ha0 (x := x) (dk_Re_149.symm.trans h)
    rw [show d + (g + 1) + 12 = d + g + 12 + 1 by omega]
    exact q), (by
    intro F hT a0 ha0 x h
    have q := dkT_150 (d := d + g) (n := n) (dk_RT n d g) hT ha0 (x := x) (dk_Re_150.symm.trans h)
    rw [show d + (g + 1) + 12 = d + g + 12 + 1 by omega]
    exact q), (by
    intro F hT a0 ha0 x h
    have q := dkT_151 (d := d + g) (n := n) (dk_RT n d g) hT ha0 (x := x) (dk_Re_151.symm.trans h)
    rw [show d + (g + 1) + 12 = d + g + 12 + 1 by omega]
    exact q), (by
    intro F hT a0 ha0 x h
    have q := dkT_153 (d := d + g) (n := n) (dk_RT n d g) hT ha0 (x := x) (dk_Re_153.symm.trans h)
    rw [show d + (g + 1) + 12 = d + g + 12 + 1 by omega]
    exact q), (by
    intro F hT a0 ha0 a1 ha1 a2 ha2 x h
    have q := dkT_154 (d := d + g) (n := n) (dk_RT n d g) hT ha0 ha1 ha2 (x := x) (dk_Re_154.symm.trans h)
    rw [show d + (g + 1) + 12 = d + g + 12 + 1 by omega]
    exact q), (by
    intro F hT a0 ha0 a1 ha1 x h
    have q := dkT_155 (d := d + g) (n := n) (dk_RT n d g) hT ha0 ha1 (x := x) (dk_Re_155.symm.trans h)
    rw [show d + (g + 1) + 12 = d + g + 12 + 1 by omega]
    exact q)⟩
def dk_76_114 (n : Nat) (F : wq_F) : Option (Nat × wq_F) :=
  (dk_84 F).bind fun y1 =>
  (dk_78 y1.2 20 y1.1 0 0).bind fun y5 =>
  some (y5.2 56 4, y5.2)
theorem dk_76_114T {d n : Nat} : ∀ ⦃u1 : Nat⦄ ⦃F : wq_F⦄ (hT : xm_T F) (hu1 : ev_isL u1 = false) ⦃x : Nat × wq_F⦄ (h : dk_76_114 n F = some x), wq (wq_cf (d + n + 12)) (ev_un al_mX4_judge.2.2.2.2) (some .int) 114 [36893488147419103288, u1] [] xm_sh F 0 0 (wkI xm_T xm_sh x) := by
  intro u1 F hT hu1 x h
  unfold dk_76_114 at h
  refine wq_aload_n rfl rfl rfl ?_
  refine wq_bipush rfl rfl ?_
  refine wq_aload_n rfl rfl rfl ?_
  refine xm_getR (v := 36893488147419103291) (q := 56) rfl rfl (by decide) (by decide) (hT.r (k := 56) 3 58 rfl (by decide) rfl) ?_
  obtain ⟨y1, e2, h⟩ := od_bindE h
  refine wd_virtI (q := 59) (y := y1) (as := [36893488147419103291]) rfl rfl rfl (by decide) (Nat.le_of_ble_eq_true rfl) (Nat.le_of_ble_eq_true rfl) rfl (Nat.le_of_ble_eq_true rfl) rfl (dkT_84 hT e2) (fun p3 T4 => ?_)
  refine wq_iconst rfl rfl ?_
  refine wq_iconst rfl rfl ?_
  obtain ⟨y5, e6, h⟩ := od_bindE h
  refine wd_virtI (q := 56) (y := y5) (as := [36893488147419103288, 20, y1.1, 0, 0]) rfl rfl rfl (by decide) (Nat.le_of_ble_eq_true rfl) (Nat.le_of_ble_eq_true rfl) rfl (Nat.le_of_ble_eq_true rfl) rfl (dkT_78 T4 (by decide) p3 (wm_zlt (by decide)) (wm_zlt (by decide)) e6) (fun p7 T8 => ?_)
  refine wq_pop rfl (wq_notL p7) ?_
  refine wq_aload_n rfl rfl rfl ?_
  refine xm_getI (q := 56) rfl rfl (by decide) (by decide) ?_
  exact wq_iret rfl (T8.i (k := 56) 4 rfl (by decide) rfl) rfl (wkOI h T8 (T8.i (k := 56) 4 rfl (by decide) rfl))
/-- X4_judge -/
def dk_76 (n : Nat) (F : wq_F) (a0 : Nat) : Option (Nat × wq_F) :=
  (dk_53 n F).bind fun y1 =>
  (dk_52 n y1.2).bind fun y5 =>
  (dk_56 y5.2).bind fun y9 =>
  (dk_82 y9.2).bind fun y13 =>
  od_up y13.2 56 4 0 fun F17 =>
  od_up F17 56 11 0 fun F20 =>
  (dk_57 F20 0).bind fun y23 =>
  od_g (y23.1 < 50) <|
  od_up y23.2 17 y23.1 0 fun F28 =>
  od_g (0 < 50) <|
  od_up F28 22 0 1 fun F32 =>
  (dk_83 F32 0).bind fun y35 =>
  (dk_72 y35.2 a0).bind fun y39 =>
  (dk_77 n y39.2).bind fun y43 =>
  (dk_78 y43.2 0 0 0 0).bind fun y47 =>
  (dk_R n n 80 [1] y47.2).bind fun y51 =>
  if (y51.2 57 4) = 0 then
    dk_76_114 n y51.2
  else
    (dk_109 y51.2 2).bind fun y56 =>
    dk_76_114 n y56.2
theorem dkT_76 {d n : Nat} {F : wq_F} (hT : xm_T F) {a0 : Nat} (ha0 : a0 < 4294967296) {x : Nat × wq_F} (h : dk_76 n F a0 = some x) : mq (d + n + 12 + 1) 76 [36893488147419103288, a0] xm_sh F (wkI xm_T xm_sh x) := by
  have e : ev_ent [36893488147419103288, a0] = [36893488147419103288, a0] := by
    show 36893488147419103288 :: ev_ent [a0] = _
    rw [wm_entI ha0]
    rfl
  refine mq_of (maxL := 2) (rt := (some .int)) (code := (ev_un al_mX4_judge.2.2.2.2)) (L := [36893488147419103288, a0]) rfl (by rw [e]; exact Nat.le_of_ble_eq_true rfl) (by rw [e]; rfl) ?_
  unfold dk_76 at h
  refine wq_aload_n rfl rfl rfl ?_
  refine xm_getR (v := 36893488147419103234) (q := 56) rfl rfl (by decide) (by decide) (hT.r (k := 56) 2 1 rfl (by decide) rfl) ?_
  obtain ⟨y1, e2, h⟩ := od_bindE h
  refine wd_virtN (q := 2) (y := y1) (as := [36893488147419103234]) rfl rfl rfl (by decide) (Nat.le_of_ble_eq_true rfl) (Nat.le_of_ble_eq_true rfl) rfl (Nat.le_of_ble_eq_true rfl) rfl (dkT_53 hT e2) (fun T4 => ?_)
  refine wq_aload_n rfl rfl rfl ?_
  refine xm_getR (v := 36893488147419103234) (q := 56) rfl rfl (by decide) (by decide) (T4.r (k := 56) 2 1 rfl (by decide) rfl) ?_
  obtain ⟨y5, e6, h⟩ := od_bindE h
  refine wd_virtN (q := 2) (y := y5) (as := [36893488147419103234]) rfl rfl rfl (by decide) (Nat.le_of_ble_eq_true rfl) (Nat.le_of_ble_eq_true rfl) rfl (Nat.le_of_ble_eq_true rfl) rfl (dkT_52 T4 e6) (fun T8 => ?_)
  refine wq_aload_n rfl rfl rfl ?_
  refine xm_getR (v := 36893488147419103243) (q := 56) rfl rfl (by decide) (by decide) (T8.r (k := 56) 1 10 rfl (by decide) rfl) ?_
  obtain ⟨y9, e10, h⟩ := od_bindE h
  refine wd_virtN (q := 11) (y := y9) (as := [36893488147419103243]) rfl rfl rfl (by decide) (Nat.le_of_ble_eq_true rfl) (Nat.le_of_ble_eq_true rfl) rfl (Nat.le_of_ble_eq_true rfl) rfl (dkT_56 T8 e10) (fun T12 => ?_)
  refine wq_aload_n rfl rfl rfl ?_
  refine xm_getR (v := 36893488147419103291) (q := 56) rfl rfl (by decide) (by decide) (T12.r (k := 56) 3 58 rfl (by decide) rfl) ?_
  obtain ⟨y13, e14, h⟩ := od_bindE h
  refine wd_virtN (q := 59) (y := y13) (as := [36893488147419103291]) rfl rfl rfl (by decide) (Nat.le_of_ble_eq_true rfl) (Nat.le_of_ble_eq_true rfl) rfl (Nat.le_of_ble_eq_true rfl) rfl (dkT_82 T12 e14) (fun T16 => ?_)
  refine wq_aload_n rfl rfl rfl ?_
  refine wq_iconst rfl rfl ?_
  obtain ⟨F17, e18, h⟩ := od_upE h
  refine xmE_put (q := 56) rfl rfl (by decide) (by decide) (wq_I (wm_zlt (by decide))) e18 ?_
  have T19 : xm_T F17 := wd_T e18 (T16.uf (k := 56) (f := 4) (c := 0) (v := 0) rfl (by decide) rfl (show 0 < 4294967296 from (wm_zlt (by decide))))
  refine wq_aload_n rfl rfl rfl ?_
  refine wq_iconst rfl rfl ?_
  obtain ⟨F20, e21, h⟩ := od_upE h
  refine xmE_put (q := 56) rfl rfl (by decide) (by decide) (wq_I (wm_zlt (by decide))) e21 ?_
  have T22 : xm_T F20 := wd_T e21 (T19.uf (k := 56) (f := 11) (c := 0) (v := 0) rfl (by decide) rfl (show 0 < 4294967296 from (wm_zlt (by decide))))
  refine wq_aload_n rfl rfl rfl ?_
  refine xm_getR (v := 36893488147419103243) (q := 56) rfl rfl (by decide) (by decide) (T22.r (k := 56) 1 10 rfl (by decide) rfl) ?_
  refine xm_getR (v := 36893488147419103249) (q := 11) rfl rfl (by decide) (by decide) (T22.r (k := 11) 7 16 rfl (by decide) rfl) ?_
  refine wq_aload_n rfl rfl rfl ?_
  refine xm_getR (v := 36893488147419103243) (q := 56) rfl rfl (by decide) (by decide) (T22.r (k := 56) 1 10 rfl (by decide) rfl) ?_
  refine wq_iconst rfl rfl ?_
  obtain ⟨y23, e24, h⟩ := od_bindE h
  refine wd_virtI (q := 11) (y := y23) (as := [36893488147419103243, 0]) rfl rfl rfl (by decide) (Nat.le_of_ble_eq_true rfl) (Nat.le_of_ble_eq_true rfl) rfl (Nat.le_of_ble_eq_true rfl) rfl (dkT_57 T22 (wm_zlt (by decide)) e24) (fun p25 T26 => ?_)
  refine wq_iconst rfl rfl ?_
  obtain ⟨g27, h⟩ := od_gE h
  obtain ⟨F28, e29, h⟩ := od_upE h
  refine wd_iastore (q := 17) (n := 50) rfl rfl (by decide) g27 (by decide) (wm_zlt (by decide)) e29 ?_
  have T30 : xm_T F28 := wd_T e29 (T26.ua (k := 17) (kd := 1000) (n := 50) (i := y23.1) (v := 0) rfl (by decide) g27 (show 0 < 4294967296 from (wm_zlt (by decide))))
  refine wq_aload_n rfl rfl rfl ?_
  refine xm_getR (v := 36893488147419103243) (q := 56) rfl rfl (by decide) (by decide) (T30.r (k := 56) 1 10 rfl (by decide) rfl) ?_
  refine xm_getR (v := 36893488147419103254) (q := 11) rfl rfl (by decide) (by decide) (T30.r (k := 11) 12 21 rfl (by decide) rfl) ?_
  refine wq_iconst rfl rfl ?_
  refine wq_iconst rfl rfl ?_
  obtain ⟨g31, h⟩ := od_gE h
  obtain ⟨F32, e33, h⟩ := od_upE h
  refine wd_zastore (q := 22) (n := 50) rfl rfl (by decide) g31 (by decide) (by decide) e33 ?_
  have T34 : xm_T F32 := wd_T e33 (T30.ua (k := 22) (kd := 1002) (n := 50) (i := 0) (v := 1) rfl (by decide) g31 (show 1 < 2 from (by decide)))
  refine wq_aload_n rfl rfl rfl ?_
  refine xm_getR (v := 36893488147419103291) (q := 56) rfl rfl (by decide) (by decide) (T34.r (k := 56) 3 58 rfl (by decide) rfl) ?_
  refine wq_iconst rfl rfl ?_
  obtain ⟨y35, e36, h⟩ := od_bindE h
  refine wd_virtN (q := 59) (y := y35) (as := [36893488147419103291, 0]) rfl rfl rfl (by decide) (Nat.le_of_ble_eq_true rfl) (Nat.le_of_ble_eq_true rfl) rfl (Nat.le_of_ble_eq_true rfl) rfl (dkT_83 T34 (wm_zlt (by decide)) e36) (fun T38 => ?_)
  refine wq_aload_n rfl rfl rfl ?_
  refine xm_getR (v := 36893488147419103289) (q := 56) rfl rfl (by decide) (by decide) (T38.r (k := 56) 0 56 rfl (by decide) rfl) ?_
  refine wq_iload_n rfl rfl ha0 ?_
  obtain ⟨y39, e40, h⟩ := od_bindE h
  refine wd_virtN (q := 57) (y := y39) (as := [36893488147419103289, a0]) rfl rfl rfl (by decide) (Nat.le_of_ble_eq_true rfl) (Nat.le_of_ble_eq_true rfl) rfl (Nat.le_of_ble_eq_true rfl) rfl (dkT_72 T38 ha0 e40) (fun T42 => ?_)
  refine wq_aload_n rfl rfl rfl ?_
  obtain ⟨y43, e44, h⟩ := od_bindE h
  refine wd_virtN (q := 56) (y := y43) (as := [36893488147419103288]) rfl rfl rfl (by decide) (Nat.le_of_ble_eq_true rfl) (Nat.le_of_ble_eq_true rfl) rfl (Nat.le_of_ble_eq_true rfl) rfl (dkT_77 T42 e44) (fun T46 => ?_)
  refine wq_aload_n rfl rfl rfl ?_
  refine wq_iconst rfl rfl ?_
  refine wq_iconst rfl rfl ?_
  refine wq_iconst rfl rfl ?_
  refine wq_iconst rfl rfl ?_
  obtain ⟨y47, e48, h⟩ := od_bindE h
  refine wd_virtI (q := 56) (y := y47) (as := [36893488147419103288, 0, 0, 0, 0]) rfl rfl rfl (by decide) (Nat.le_of_ble_eq_true rfl) (Nat.le_of_ble_eq_true rfl) rfl (Nat.le_of_ble_eq_true rfl) rfl (dkT_78 T46 (wm_zlt (by decide)) (wm_zlt (by decide)) (wm_zlt (by decide)) (wm_zlt (by decide)) e48) (fun p49 T50 => ?_)
  refine wq_pop rfl (wq_notL p49) ?_
  refine wq_aload_n rfl rfl rfl ?_
  refine wq_iconst rfl rfl ?_
  obtain ⟨y51, e52, h⟩ := od_bindE h
  refine wd_virtN (q := 56) (y := y51) (as := [36893488147419103288, 1]) rfl rfl rfl (by decide) (Nat.le_of_ble_eq_true rfl) (Nat.le_of_ble_eq_true rfl) rfl (Nat.le_of_ble_eq_true rfl) rfl (dk_s80 (dk_RT n d n) T50 (wm_zlt (by decide)) e52) (fun T54 => ?_)
  refine wq_aload_n rfl rfl rfl ?_
  refine xm_getR (v := 36893488147419103289) (q := 56) rfl rfl (by decide) (by decide) (T54.r (k := 56) 0 56 rfl (by decide) rfl) ?_
  refine xm_getI (q := 57) rfl rfl (by decide) (by decide) ?_
  refine wq_if_eq rfl rfl (T54.i (k := 57) 4 rfl (by decide) rfl) (fun h55 => ?_) (fun h55 => ?_)
  · replace h := od_pos h h55
    exact dk_76_114T T54 (wq_notL ha0) h
  · replace h := od_neg h h55
    refine wq_aload_n rfl rfl rfl ?_
    refine wq_iconst rfl rfl ?_
    obtain ⟨y56, e57, h⟩ := od_bindE h
    refine wd_virtN (q := 56) (y := y56) (as := [36893488147419103288, 2]) rfl rfl rfl (by decide) (Nat.le_of_ble_eq_true rfl) (Nat.le_of_ble_eq_true rfl) rfl (Nat.le_of_ble_eq_true rfl) rfl (dkT_109 T54 (by decide) e57) (fun T59 => ?_)
    exact dk_76_114T T59 (wq_notL ha0) h
/-- X8_lengthOf -/
def dk_172 (F : wq_F) (a0 : Nat) : Option (Nat × wq_F) :=
  od_g (a0 < 3000) <|
  some (F 5 a0, F)
theorem dkT_172 {d : Nat} {F : wq_F} (hT : xm_T F) {a0 : Nat} (ha0 : a0 < 4294967296) {x : Nat × wq_F} (h : dk_172 F a0 = some x) : mq (d + 0 + 1) 172 [36893488147419103234, a0] xm_sh F (wkI xm_T xm_sh x) := by
  have e : ev_ent [36893488147419103234, a0] = [36893488147419103234, a0] := by
    show 36893488147419103234 :: ev_ent [a0] = _
    rw [wm_entI ha0]
    rfl
  refine mq_of (maxL := 2) (rt := (some .int)) (code := (ev_un al_mX8_lengthOf.2.2.2.2)) (L := [36893488147419103234, a0]) rfl (by rw [e]; exact Nat.le_of_ble_eq_true rfl) (by rw [e]; rfl) ?_
  unfold dk_172 at h
  refine wq_aload_n rfl rfl rfl ?_
  refine xm_getR (v := 36893488147419103237) (q := 2) rfl rfl (by decide) (by decide) (hT.r (k := 2) 2 4 rfl (by decide) rfl) ?_
  refine wq_iload_n rfl rfl ha0 ?_
  obtain ⟨g1, h⟩ := od_gE h
  refine wq_iaload (q := 5) (n := 3000) rfl rfl (by decide) g1 (by decide) ?_
  exact wq_iret rfl (hT.ai (k := 5) rfl g1) rfl (wkOI h hT (hT.ai (k := 5) rfl g1))
/-- X8_byteOf -/
def dk_173 (F : wq_F) (a0 : Nat) (a1 : Nat) : Option (Nat × wq_F) :=
  od_g (a0 < 3000) <|
  od_g (((F 4 a0) + a1) % 4294967296 < 32768) <|
  od_let (F 3 (((F 4 a0) + a1) % 4294967296)) fun y3 =>
  some (ev_oAnd y3 255, F)
theorem dkT_173 {d : Nat} {F : wq_F} (hT : xm_T F) {a0 : Nat} (ha0 : a0 < 4294967296) {a1 : Nat} (ha1 : a1 < 4294967296) {x : Nat × wq_F} (h : dk_173 F a0 a1 = some x) : mq (d + 0 + 1) 173 [36893488147419103234, a0, a1] xm_sh F (wkI xm_T xm_sh x) := by
  have e : ev_ent [36893488147419103234, a0, a1] = [36893488147419103234, a0, a1] := by
    show 36893488147419103234 :: ev_ent [a0, a1] = _
    rw [wm_entI ha0, wm_entI ha1]
    rfl
  refine mq_of (maxL := 3) (rt := (some .int)) (code := (ev_un al_mX8_byteOf.2.2.2.2)) (L := [36893488147419103234, a0, a1]) rfl (by rw [e]; exact Nat.le_of_ble_eq_true rfl) (by rw [e]; rfl) ?_
  unfold dk_173 at h
  refine wq_aload_n rfl rfl rfl ?_
  refine xm_getR (v := 36893488147419103235) (q := 2) rfl rfl (by decide) (by decide) (hT.r (k := 2) 0 2 rfl (by decide) rfl) ?_
  refine wq_aload_n rfl rfl rfl ?_
  refine xm_getR (v := 36893488147419103236) (q := 2) rfl rfl (by decide) (by decide) (hT.r (k := 2) 1 3 rfl (by decide) rfl) ?_
  refine wq_iload_n rfl rfl ha0 ?_
  obtain ⟨g1, h⟩ := od_gE h
  refine wq_iaload (q := 4) (n := 3000) rfl rfl (by decide) g1 (by decide) ?_
  refine wq_iload_n rfl rfl ha1 ?_
  refine wq_iaddZ rfl (hT.ai (k := 4) rfl g1) ha1 (z := ((F 4 a0) + a1) % 4294967296) rfl ?_
  obtain ⟨g2, h⟩ := od_gE h
  refine wq_baload (q := 3) (n := 32768) rfl rfl (by decide) g2 (by decide) ?_
  obtain ⟨y3, e4, h⟩ := od_letE h
  refine wq_top e4.symm ?_
  have p5 : y3 < 4294967296 := wd_lt e4 (hT.ab (k := 3) rfl g2)
  refine wq_sipush rfl rfl ?_
  refine wq_iand rfl p5 (by decide) ?_
  exact wq_iret rfl (wq_I_iand p5 (by decide)) rfl (wkOI h hT (wq_I_iand p5 (by decide)))
def dk_174_2b (n : Nat) (r2 : wq_F → Nat → Nat → Nat → Option (Nat × wq_F)) (F : wq_F) (v1 : Nat) (v2 : Nat) (v3 : Nat) : Option (Nat × wq_F) :=
  od_g (v1 < 3000) <|
  if ev_s v3 < ev_s (F 5 v1) then
    (dk_173 F v1 v3).bind fun y3 =>
    if y3.1 = v2 then
      some (1, y3.2)
    else
      od_let ((v3 + 1) % 4294967296) fun y8 =>
      r2 y3.2 v1 v2 y8
  else
    some (0, F)
theorem dk_174_2bT {d n : Nat} {r2 : wq_F → Nat → Nat → Nat → Option (Nat × wq_F)} (hr2 : ∀ ⦃F : wq_F⦄ (hT : xm_T F) ⦃v1 : Nat⦄ (hv1 : v1 < 4294967296) ⦃v2 : Nat⦄ (hv2 : v2 < 4294967296) ⦃v3 : Nat⦄ (hv3 : v3 < 4294967296) ⦃x : Nat × wq_F⦄ (h : r2 F v1 v2 v3 = some x), wq (wq_cf (d + 1)) (ev_un al_mX8_has.2.2.2.2) (some .boolean) 2 [36893488147419103234, v1, v2, v3] [] xm_sh F 0 0 (wkZ xm_T xm_sh x)) : ∀ ⦃F : wq_F⦄ (hT : xm_T F) ⦃v1 : Nat⦄ (hv1 : v1 < 4294967296) ⦃v2 : Nat⦄ (hv2 : v2 < 4294967296) ⦃v3 : Nat⦄ (hv3 : v3 < 4294967296) ⦃x : Nat × wq_F⦄ (h : dk_174_2b n r2 F v1 v2 v3 = some x), wq (wq_cf (d + 1)) (ev_un al_mX8_has.2.2.2.2) (some .boolean) 2 [36893488147419103234, v1, v2, v3] [] xm_sh F 0 0 (wkZ xm_T xm_sh x) := by
  intro F hT v1 hv1 v2 hv2 v3 hv3 x h
  unfold dk_174_2b at h
  refine wq_iload_n rfl rfl hv3 ?_
  refine wq_aload_n rfl rfl rfl ?_
  refine xm_getR (v := 36893488147419103237) (q := 2) rfl rfl (by decide) (by decide) (hT.r (k := 2) 2 4 rfl (by decide) rfl) ?_
  refine wq_iload_n rfl rfl hv1 ?_
  obtain ⟨g1, h⟩ := od_gE h
  refine wq_iaload (q := 5) (n := 3000) rfl rfl (by decide) g1 (by decide) ?_
  refine wq_ic_ge rfl rfl hv3 (hT.ai (k := 5) rfl g1) (fun h2 => ?_) (fun h2 => ?_)
  · replace h := od_neg h (Nat.not_lt.mpr h2)
    refine wq_iconst rfl rfl ?_
    exact wq_iret rfl (wm_zlt (by decide)) (Nat.blt_eq.mpr (by decide)) (wkOZ h hT (by decide))
  · replace h := od_pos h h2
    refine wq_aload_n rfl rfl rfl ?_
    refine wq_iload_n rfl rfl hv1 ?_
    refine wq_iload_n rfl rfl hv3 ?_
    obtain ⟨y3, e4, h⟩ := od_bindE h
    refine wd_virtI (q := 2) (y := y3) (as := [36893488147419103234, v1, v3]) rfl rfl rfl (by decide) (Nat.le_of_ble_eq_true rfl) (Nat.le_of_ble_eq_true rfl) rfl (Nat.le_of_ble_eq_true rfl) rfl (dkT_173 hT hv1 hv3 e4) (fun p5 T6 => ?_)
    refine wq_iload_n rfl rfl hv2 ?_
    refine wq_ic_ne rfl rfl p5 hv2 (fun h7 => ?_) (fun h7 => ?_)
    · replace h := od_neg h h7
      obtain ⟨y8, e9, h⟩ := od_letE h
      have p10 : y8 < 4294967296 := wd_lt e9 (Nat.mod_lt _ (by decide))
      refine wq_iincZ rfl rfl hv3 (Or.inr ⟨_, rfl, (wq_notL hv2)⟩) rfl (z := y8) e9.symm (L' := [36893488147419103234, v1, v2, y8]) rfl ?_
      refine wq_goto rfl rfl ?_
      exact hr2 T6 hv1 hv2 p10 h
    · replace h := od_pos h h7
      refine wq_iconst rfl rfl ?_
      exact wq_iret rfl (wm_zlt (by decide)) (Nat.blt_eq.mpr (by decide)) (wkOZ h T6 (by decide))
def dk_174_2 (n : Nat) : Nat → wq_F → Nat → Nat → Nat → Option (Nat × wq_F)
  | 0 => fun _ _ _ _ => none
  | g + 1 => dk_174_2b n (dk_174_2 n g)
theorem dk_174_2T {d n : Nat} : ∀ g : Nat, ∀ ⦃F : wq_F⦄ (hT : xm_T F) ⦃v1 : Nat⦄ (hv1 : v1 < 4294967296) ⦃v2 : Nat⦄ (hv2 : v2 < 4294967296) ⦃v3 : Nat⦄ (hv3 : v3 < 4294967296) ⦃x : Nat × wq_F⦄ (h : dk_174_2 n g F v1 v2 v3 = some x), wq (wq_cf (d + 1)) (ev_un al_mX8_has.2.2.2.2) (some .boolean) 2 [36893488147419103234, v1, v2, v3] [] xm_sh F 0 0 (wkZ xm_T xm_sh x)
  | 0 => by
    intro F hT v1 hv1 v2 hv2 v3 hv3 x h
    cases h
  | g + 1 => dk_174_2bT (dk_174_2T g)
/-- X8_has -/
def dk_174 (n : Nat) (F : wq_F) (a0 : Nat) (a1 : Nat) : Option (Nat × wq_F) :=
  dk_174_2 n n F a0 a1 0
theorem dkT_174 {d n : Nat} {F : wq_F} (hT : xm_T F) {a0 : Nat} (ha0 : a0 < 4294967296) {a1 : Nat} (ha1 : a1 < 4294967296) {x : Nat × wq_F} (h : dk_174 n F a0 a1 = some x) : mq (d + 1 + 1) 174 [36893488147419103234, a0, a1] xm_sh F (wkZ xm_T xm_sh x) := by
  have e : ev_ent [36893488147419103234, a0, a1] = [36893488147419103234, a0, a1] := by
    show 36893488147419103234 :: ev_ent [a0, a1] = _
    rw [wm_entI ha0, wm_entI ha1]
    rfl
  refine mq_of (maxL := 4) (rt := (some .boolean)) (code := (ev_un al_mX8_has.2.2.2.2)) (L := [36893488147419103234, a0, a1, 73786976294838206464]) rfl (by rw [e]; exact Nat.le_of_ble_eq_true rfl) (by rw [e]; rfl) ?_
  unfold dk_174 at h
  refine wq_iconst rfl rfl ?_
  refine wq_istore_n rfl (wm_zlt (by decide)) (Nat.le_of_ble_eq_true rfl) (Or.inr ⟨_, rfl, (wq_notL ha1)⟩) (L' := [36893488147419103234, a0, a1, 0]) rfl ?_
  exact dk_174_2T n hT ha0 ha1 (wm_zlt (by decide)) h
def dk_175_19b (n : Nat) (r19 : wq_F → Nat → Nat → Nat → Nat → Option (Nat × wq_F)) (F : wq_F) (v1 : Nat) (v2 : Nat) (v3 : Nat) (v4 : Nat) : Option (Nat × wq_F) :=
  if ev_s v4 < ev_s v3 then
    (dk_173 F v1 v4).bind fun y7 =>
    (dk_173 y7.2 v2 v4).bind fun y11 =>
    od_let ((y7.1 + (4294967296 - y11.1)) % 4294967296) fun y15 =>
    if y15 = 0 then
      od_let ((v4 + 1) % 4294967296) fun y19 =>
      r19 y11.2 v1 v2 v3 y19
    else
      some (y15, y11.2)
  else
    od_g (v1 < 3000) <|
    od_g (v2 < 3000) <|
    od_let (((F 5 v1) + (4294967296 - (F 5 v2))) % 4294967296) fun y4 =>
    some (y4, F)
theorem dk_175_19bT {d n : Nat} {r19 : wq_F → Nat → Nat → Nat → Nat → Option (Nat × wq_F)} (hr19 : ∀ ⦃u5 : Nat⦄ ⦃F : wq_F⦄ (hT : xm_T F) ⦃v1 : Nat⦄ (hv1 : v1 < 4294967296) ⦃v2 : Nat⦄ (hv2 : v2 < 4294967296) ⦃v3 : Nat⦄ (hv3 : v3 < 4294967296) ⦃v4 : Nat⦄ (hv4 : v4 < 4294967296) (hu5 : ev_isL u5 = false) ⦃x : Nat × wq_F⦄ (h : r19 F v1 v2 v3 v4 = some x), wq (wq_cf (d + 1)) (ev_un al_mX8_compare.2.2.2.2) (some .int) 19 [36893488147419103234, v1, v2, v3, v4, u5] [] xm_sh F 0 0 (wkI xm_T xm_sh x)) : ∀ ⦃u5 : Nat⦄ ⦃F : wq_F⦄ (hT : xm_T F) ⦃v1 : Nat⦄ (hv1 : v1 < 4294967296) ⦃v2 : Nat⦄ (hv2 : v2 < 4294967296) ⦃v3 : Nat⦄ (hv3 : v3 < 4294967296) ⦃v4 : Nat⦄ (hv4 : v4 < 4294967296) (hu5 : ev_isL u5 = false) ⦃x : Nat × wq_F⦄ (h : dk_175_19b n r19 F v1 v2 v3 v4 = some x), wq (wq_cf (d + 1)) (ev_un al_mX8_compare.2.2.2.2) (some .int) 19 [36893488147419103234, v1, v2, v3, v4, u5] [] xm_sh F 0 0 (wkI xm_T xm_sh x) := by
  intro u5 F hT v1 hv1 v2 hv2 v3 hv3 v4 hv4 hu5 x h
  unfold dk_175_19b at h
  refine wq_iload rfl rfl hv4 ?_
  refine wq_iload_n rfl rfl hv3 ?_
  refine wq_ic_ge rfl rfl hv4 hv3 (fun h1 => ?_) (fun h1 => ?_)
  · replace h := od_neg h (Nat.not_lt.mpr h1)
    refine wq_aload_n rfl rfl rfl ?_
    refine xm_getR (v := 36893488147419103237) (q := 2) rfl rfl (by decide) (by decide) (hT.r (k := 2) 2 4 rfl (by decide) rfl) ?_
    refine wq_iload_n rfl rfl hv1 ?_
    obtain ⟨g2, h⟩ := od_gE h
    refine wq_iaload (q := 5) (n := 3000) rfl rfl (by decide) g2 (by decide) ?_
    refine wq_aload_n rfl rfl rfl ?_
    refine xm_getR (v := 36893488147419103237) (q := 2) rfl rfl (by decide) (by decide) (hT.r (k := 2) 2 4 rfl (by decide) rfl) ?_
    refine wq_iload_n rfl rfl hv2 ?_
    obtain ⟨g3, h⟩ := od_gE h
    refine wq_iaload (q := 5) (n := 3000) rfl rfl (by decide) g3 (by decide) ?_
    refine wq_isubZ rfl (hT.ai (k := 5) rfl g2) (hT.ai (k := 5) rfl g3) (z := ((F 5 v1) + (4294967296 - (F 5 v2))) % 4294967296) rfl ?_
    obtain ⟨y4, e5, h⟩ := od_letE h
    refine wq_top e5.symm ?_
    have p6 : y4 < 4294967296 := wd_lt e5 (Nat.mod_lt _ (by decide))
    exact wq_iret rfl p6 rfl (wkOI h hT p6)
  · replace h := od_pos h h1
    refine wq_aload_n rfl rfl rfl ?_
    refine wq_iload_n rfl rfl hv1 ?_
    refine wq_iload rfl rfl hv4 ?_
    obtain ⟨y7, e8, h⟩ := od_bindE h
    refine wd_virtI (q := 2) (y := y7) (as := [36893488147419103234, v1, v4]) rfl rfl rfl (by decide) (Nat.le_of_ble_eq_true rfl) (Nat.le_of_ble_eq_true rfl) rfl (Nat.le_of_ble_eq_true rfl) rfl (dkT_173 hT hv1 hv4 e8) (fun p9 T10 => ?_)
    refine wq_aload_n rfl rfl rfl ?_
    refine wq_iload_n rfl rfl hv2 ?_
    refine wq_iload rfl rfl hv4 ?_
    obtain ⟨y11, e12, h⟩ := od_bindE h
    refine wd_virtI (q := 2) (y := y11) (as := [36893488147419103234, v2, v4]) rfl rfl rfl (by decide) (Nat.le_of_ble_eq_true rfl) (Nat.le_of_ble_eq_true rfl) rfl (Nat.le_of_ble_eq_true rfl) rfl (dkT_173 T10 hv2 hv4 e12) (fun p13 T14 => ?_)
    refine wq_isubZ rfl p9 p13 (z := (y7.1 + (4294967296 - y11.1)) % 4294967296) rfl ?_
    obtain ⟨y15, e16, h⟩ := od_letE h
    refine wq_top e16.symm ?_
    have p17 : y15 < 4294967296 := wd_lt e16 (Nat.mod_lt _ (by decide))
    refine wq_istore rfl p17 (Nat.le_of_ble_eq_true rfl) (Or.inr ⟨_, rfl, (wq_notL hv4)⟩) (L' := [36893488147419103234, v1, v2, v3, v4, y15]) rfl ?_
    refine wq_iload rfl rfl p17 ?_
    refine wq_if_eq rfl rfl p17 (fun h18 => ?_) (fun h18 => ?_)
    · replace h := od_pos h h18
      obtain ⟨y19, e20, h⟩ := od_letE h
      have p21 : y19 < 4294967296 := wd_lt e20 (Nat.mod_lt _ (by decide))
      refine wq_iincZ rfl rfl hv4 (Or.inr ⟨_, rfl, (wq_notL hv3)⟩) rfl (z := y19) e20.symm (L' := [36893488147419103234, v1, v2, v3, y19, y15]) rfl ?_
      refine wq_goto rfl rfl ?_
      exact hr19 T14 hv1 hv2 hv3 p21 (wq_notL p17) h
    · replace h := od_neg h h18
      refine wq_iload rfl rfl p17 ?_
      exact wq_iret rfl p17 rfl (wkOI h T14 p17)
def dk_175_19 (n : Nat) : Nat → wq_F → Nat → Nat → Nat → Nat → Option (Nat × wq_F)
  | 0 => fun _ _ _ _ _ => none
  | g + 1 => dk_175_19b n (dk_175_19 n g)
theorem dk_175_19T {d n : Nat} : ∀ g : Nat, ∀ ⦃u5 : Nat⦄ ⦃F : wq_F⦄ (hT : xm_T F) ⦃v1 : Nat⦄ (hv1 : v1 < 4294967296) ⦃v2 : Nat⦄ (hv2 : v2 < 4294967296) ⦃v3 : Nat⦄ (hv3 : v3 < 4294967296) ⦃v4 : Nat⦄ (hv4 : v4 < 4294967296) (hu5 : ev_isL u5 = false) ⦃x : Nat × wq_F⦄ (h : dk_175_19 n g F v1 v2 v3 v4 = some x), wq (wq_cf (d + 1)) (ev_un al_mX8_compare.2.2.2.2) (some .int) 19 [36893488147419103234, v1, v2, v3, v4, u5] [] xm_sh F 0 0 (wkI xm_T xm_sh x)
  | 0 => by
    intro u5 F hT v1 hv1 v2 hv2 v3 hv3 v4 hv4 hu5 x h
    cases h
  | g + 1 => dk_175_19bT (dk_175_19T g)
/-- X8_compare -/
def dk_175 (n : Nat) (F : wq_F) (a0 : Nat) (a1 : Nat) : Option (Nat × wq_F) :=
  od_g (a0 < 3000) <|
  od_g (a1 < 3000) <|
  od_let (if ev_s (F 5 a1) < ev_s (F 5 a0) then F 5 a1 else F 5 a0) fun y3 =>
  dk_175_19 n n F a0 a1 y3 0
theorem dkT_175 {d n : Nat} {F : wq_F} (hT : xm_T F) {a0 : Nat} (ha0 : a0 < 4294967296) {a1 : Nat} (ha1 : a1 < 4294967296) {x : Nat × wq_F} (h : dk_175 n F a0 a1 = some x) : mq (d + 1 + 1) 175 [36893488147419103234, a0, a1] xm_sh F (wkI xm_T xm_sh x) := by
  have e : ev_ent [36893488147419103234, a0, a1] = [36893488147419103234, a0, a1] := by
    show 36893488147419103234 :: ev_ent [a0, a1] = _
    rw [wm_entI ha0, wm_entI ha1]
    rfl
  refine mq_of (maxL := 6) (rt := (some .int)) (code := (ev_un al_mX8_compare.2.2.2.2)) (L := [36893488147419103234, a0, a1, 73786976294838206464, 73786976294838206464, 73786976294838206464]) rfl (by rw [e]; exact Nat.le_of_ble_eq_true rfl) (by rw [e]; rfl) ?_
  unfold dk_175 at h
  refine wq_aload_n rfl rfl rfl ?_
  refine xm_getR (v := 36893488147419103237) (q := 2) rfl rfl (by decide) (by decide) (hT.r (k := 2) 2 4 rfl (by decide) rfl) ?_
  refine wq_iload_n rfl rfl ha0 ?_
  obtain ⟨g1, h⟩ := od_gE h
  refine wq_iaload (q := 5) (n := 3000) rfl rfl (by decide) g1 (by decide) ?_
  refine wq_aload_n rfl rfl rfl ?_
  refine xm_getR (v := 36893488147419103237) (q := 2) rfl rfl (by decide) (by decide) (hT.r (k := 2) 2 4 rfl (by decide) rfl) ?_
  refine wq_iload_n rfl rfl ha1 ?_
  obtain ⟨g2, h⟩ := od_gE h
  refine wq_iaload (q := 5) (n := 3000) rfl rfl (by decide) g2 (by decide) ?_
  refine wq_min rfl (hT.ai (k := 5) rfl g1) (hT.ai (k := 5) rfl g2) (Nat.le_of_ble_eq_true rfl) ?_
  obtain ⟨y3, e4, h⟩ := od_letE h
  refine wq_top e4.symm ?_
  have p5 : y3 < 4294967296 := wd_lt e4 (wd_ite (hT.ai (k := 5) rfl g2) (hT.ai (k := 5) rfl g1))
  refine wq_istore_n rfl p5 (Nat.le_of_ble_eq_true rfl) (Or.inr ⟨_, rfl, (wq_notL ha1)⟩) (L' := [36893488147419103234, a0, a1, y3, 73786976294838206464, 73786976294838206464]) rfl ?_
  refine wq_iconst rfl rfl ?_
  refine wq_istore rfl (wm_zlt (by decide)) (Nat.le_of_ble_eq_true rfl) (Or.inr ⟨_, rfl, (wq_notL p5)⟩) (L' := [36893488147419103234, a0, a1, y3, 0, 73786976294838206464]) rfl ?_
  exact dk_175_19T n hT ha0 ha1 p5 (wm_zlt (by decide)) rfl h
/-- X8_rowByte -/
def dk_177 (F : wq_F) (a0 : Nat) : Option (Nat × wq_F) :=
  od_g (a0 < 2200) <|
  some (F 10 a0, F)
theorem dkT_177 {d : Nat} {F : wq_F} (hT : xm_T F) {a0 : Nat} (ha0 : a0 < 4294967296) {x : Nat × wq_F} (h : dk_177 F a0 = some x) : mq (d + 0 + 1) 177 [36893488147419103234, a0] xm_sh F (wkI xm_T xm_sh x) := by
  have e : ev_ent [36893488147419103234, a0] = [36893488147419103234, a0] := by
    show 36893488147419103234 :: ev_ent [a0] = _
    rw [wm_entI ha0]
    rfl
  refine mq_of (maxL := 2) (rt := (some .int)) (code := (ev_un al_mX8_rowByte.2.2.2.2)) (L := [36893488147419103234, a0]) rfl (by rw [e]; exact Nat.le_of_ble_eq_true rfl) (by rw [e]; rfl) ?_
  unfold dk_177 at h
  refine wq_aload_n rfl rfl rfl ?_
  refine xm_getR (v := 36893488147419103242) (q := 2) rfl rfl (by decide) (by decide) (hT.r (k := 2) 14 9 rfl (by decide) rfl) ?_
  refine wq_iload_n rfl rfl ha0 ?_
  obtain ⟨g1, h⟩ := od_gE h
  refine wq_baload (q := 10) (n := 2200) rfl rfl (by decide) g1 (by decide) ?_
  exact wq_iret rfl (hT.ab (k := 10) rfl g1) rfl (wkOI h hT (hT.ab (k := 10) rfl g1))
