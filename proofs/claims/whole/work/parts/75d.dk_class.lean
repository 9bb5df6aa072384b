/-! ===== 75d: the class: methods as functions on memories (by wip/whole2/law73.py, dc.py): 122 X4_ifStatement, 123 X4_condition, 126 X4_forStatement, 127 X4_countingFor, 128 X4_rowFor, 130 X4_localStatement, 131 X4_functionStatement, 137 X4_chain, 138 X4_link, 139 X4_given, 140 X4_chainStatement, 141 X4_assignment, 144 X4_row ===== -/
def dk_122_112 (R : dk_Rt) (n : Nat) (F : wq_F) (v2 : Nat) (v3 : Nat) : Option (Nat × wq_F) :=
  (dk_110 n F 15).bind fun y1 =>
  (dk_159 n y1.2 v3).bind fun y5 =>
  (dk_159 n y5.2 v2).bind fun y9 =>
  some (0, y9.2)
theorem dk_122_112T {d n : Nat} {R : dk_Rt} (hR : dk_spec (d + 12) R) : ∀ ⦃u1 : Nat⦄ ⦃u4 : Nat⦄ ⦃F : wq_F⦄ (hT : xm_T F) ⦃v2 : Nat⦄ (hv2 : v2 < 4294967296) ⦃v3 : Nat⦄ (hv3 : v3 < 4294967296) (hu1 : ev_isL u1 = false) (hu4 : ev_isL u4 = false) ⦃x : Nat × wq_F⦄ (h : dk_122_112 R n F v2 v3 = some x), wq (wq_cf (d + 12)) (ev_un al_mX4_ifStatement.2.2.2.2) none 112 [36893488147419103288, u1, v2, v3, u4] [] xm_sh F 0 0 (wkN xm_T xm_sh x) := by
  intro u1 u4 F hT v2 hv2 v3 hv3 hu1 hu4 x h
  unfold dk_122_112 at h
  refine wq_aload_n rfl rfl rfl ?_
  refine wq_bipush rfl rfl ?_
  obtain ⟨y1, e2, h⟩ := od_bindE h
  refine wd_virtN (q := 56) (y := y1) (as := [36893488147419103288, 15]) rfl rfl rfl (by decide) (Nat.le_of_ble_eq_true rfl) (Nat.le_of_ble_eq_true rfl) rfl (Nat.le_of_ble_eq_true rfl) rfl (dkT_110 hT (by decide) e2) (fun T4 => ?_)
  refine wq_aload_n rfl rfl rfl ?_
  refine xm_getR (v := 36893488147419103243) (q := 56) rfl rfl (by decide) (by decide) (T4.r (k := 56) 1 10 rfl (by decide) rfl) ?_
  refine wq_iload_n rfl rfl hv3 ?_
  obtain ⟨y5, e6, h⟩ := od_bindE h
  refine wd_virtN (q := 11) (y := y5) (as := [36893488147419103243, v3]) rfl rfl rfl (by decide) (Nat.le_of_ble_eq_true rfl) (Nat.le_of_ble_eq_true rfl) rfl (Nat.le_of_ble_eq_true rfl) rfl (dkT_159 T4 hv3 e6) (fun T8 => ?_)
  refine wq_aload_n rfl rfl rfl ?_
  refine xm_getR (v := 36893488147419103243) (q := 56) rfl rfl (by decide) (by decide) (T8.r (k := 56) 1 10 rfl (by decide) rfl) ?_
  refine wq_iload_n rfl rfl hv2 ?_
  obtain ⟨y9, e10, h⟩ := od_bindE h
  refine wd_virtN (q := 11) (y := y9) (as := [36893488147419103243, v2]) rfl rfl rfl (by decide) (Nat.le_of_ble_eq_true rfl) (Nat.le_of_ble_eq_true rfl) rfl (Nat.le_of_ble_eq_true rfl) rfl (dkT_159 T8 hv2 e10) (fun T12 => ?_)
  exact wq_ret rfl (wkON h T12)
def dk_122_69 (R : dk_Rt) (n : Nat) (F : wq_F) (v1 : Nat) (v2 : Nat) (v3 : Nat) : Option (Nat × wq_F) :=
  if (F 57 4) = 13 then
    (dk_78 F 21 0 v2 0).bind fun y2 =>
    (dk_159 n y2.2 v3).bind fun y6 =>
    (dk_77 n y6.2).bind fun y10 =>
    (R 115 [(v1 + 1) % 4294967296] y10.2).bind fun y14 =>
    dk_122_112 R n y14.2 y2.1 4294967295
  else
    dk_122_112 R n F v2 v3
theorem dk_122_69T {d n : Nat} {R : dk_Rt} (hR : dk_spec (d + 12) R) : ∀ ⦃u4 : Nat⦄ ⦃F : wq_F⦄ (hT : xm_T F) ⦃v1 : Nat⦄ (hv1 : v1 < 4294967296) ⦃v2 : Nat⦄ (hv2 : v2 < 4294967296) ⦃v3 : Nat⦄ (hv3 : v3 < 4294967296) (hu4 : ev_isL u4 = false) ⦃x : Nat × wq_F⦄ (h : dk_122_69 R n F v1 v2 v3 = some x), wq (wq_cf (d + 12)) (ev_un al_mX4_ifStatement.2.2.2.2) none 69 [36893488147419103288, v1, v2, v3, u4] [] xm_sh F 0 0 (wkN xm_T xm_sh x) := by
  intro u4 F hT v1 hv1 v2 hv2 v3 hv3 hu4 x h
  unfold dk_122_69 at h
  refine wq_aload_n rfl rfl rfl ?_
  refine xm_getR (v := 36893488147419103289) (q := 56) rfl rfl (by decide) (by decide) (hT.r (k := 56) 0 56 rfl (by decide) rfl) ?_
  refine xm_getI (q := 57) rfl rfl (by decide) (by decide) ?_
  refine wq_bipush rfl rfl ?_
  refine wq_ic_ne rfl rfl (hT.i (k := 57) 4 rfl (by decide) rfl) (by decide) (fun h1 => ?_) (fun h1 => ?_)
  · replace h := od_neg h h1
    exact dk_122_112T hR hT hv2 hv3 (wq_notL hv1) hu4 h
  · replace h := od_pos h h1
    refine wq_aload_n rfl rfl rfl ?_
    refine wq_bipush rfl rfl ?_
    refine wq_iconst rfl rfl ?_
    refine wq_iload_n rfl rfl hv2 ?_
    refine wq_iconst rfl rfl ?_
    obtain ⟨y2, e3, h⟩ := od_bindE h
    refine wd_virtI (q := 56) (y := y2) (as := [36893488147419103288, 21, 0, v2, 0]) rfl rfl rfl (by decide) (Nat.le_of_ble_eq_true rfl) (Nat.le_of_ble_eq_true rfl) rfl (Nat.le_of_ble_eq_true rfl) rfl (dkT_78 hT (by decide) (wm_zlt (by decide)) hv2 (wm_zlt (by decide)) e3) (fun p4 T5 => ?_)
    refine wq_istore_n rfl p4 (Nat.le_of_ble_eq_true rfl) (Or.inr ⟨_, rfl, (wq_notL hv1)⟩) (L' := [36893488147419103288, v1, y2.1, v3, u4]) rfl ?_
    refine wq_aload_n rfl rfl rfl ?_
    refine xm_getR (v := 36893488147419103243) (q := 56) rfl rfl (by decide) (by decide) (T5.r (k := 56) 1 10 rfl (by decide) rfl) ?_
    refine wq_iload_n rfl rfl hv3 ?_
    obtain ⟨y6, e7, h⟩ := od_bindE h
    refine wd_virtN (q := 11) (y := y6) (as := [36893488147419103243, v3]) rfl rfl rfl (by decide) (Nat.le_of_ble_eq_true rfl) (Nat.le_of_ble_eq_true rfl) rfl (Nat.le_of_ble_eq_true rfl) rfl (dkT_159 T5 hv3 e7) (fun T9 => ?_)
    refine wq_iconst rfl rfl ?_
    refine wq_istore_n rfl (by decide) (Nat.le_of_ble_eq_true rfl) (Or.inr ⟨_, rfl, (wq_notL p4)⟩) (L' := [36893488147419103288, v1, y2.1, 4294967295, u4]) rfl ?_
    refine wq_aload_n rfl rfl rfl ?_
    obtain ⟨y10, e11, h⟩ := od_bindE h
    refine wd_virtN (q := 56) (y := y10) (as := [36893488147419103288]) rfl rfl rfl (by decide) (Nat.le_of_ble_eq_true rfl) (Nat.le_of_ble_eq_true rfl) rfl (Nat.le_of_ble_eq_true rfl) rfl (dkT_77 T9 e11) (fun T13 => ?_)
    refine wq_aload_n rfl rfl rfl ?_
    refine wq_iload_n rfl rfl hv1 ?_
    refine wq_iconst rfl rfl ?_
    refine wq_iaddZ rfl hv1 (wm_zlt (by decide)) (z := (v1 + 1) % 4294967296) rfl ?_
    obtain ⟨y14, e15, h⟩ := od_bindE h
    refine wd_virtN (q := 56) (y := y14) (as := [36893488147419103288, (v1 + 1) % 4294967296]) rfl rfl rfl (by decide) (Nat.le_of_ble_eq_true rfl) (Nat.le_of_ble_eq_true rfl) rfl (Nat.le_of_ble_eq_true rfl) rfl (dk_s115 hR T13 (Nat.mod_lt _ (by decide)) e15) (fun T17 => ?_)
    exact dk_122_112T hR T17 p4 (by decide) (wq_notL hv1) hu4 h
def dk_122_15b (R : dk_Rt) (n : Nat) (r15 : wq_F → Nat → Nat → Nat → Nat → Option (Nat × wq_F)) (F : wq_F) (v1 : Nat) (v2 : Nat) (v3 : Nat) (v4 : Nat) : Option (Nat × wq_F) :=
  if ev_s 1500 < ev_s v4 then
    dk_122_69 R n F v1 v2 v3
  else
    if (F 57 4) = 14 then
      (dk_78 F 21 0 v2 0).bind fun y3 =>
      (dk_159 n y3.2 v3).bind fun y7 =>
      (dk_77 n y7.2).bind fun y11 =>
      (R 123 [v1] y11.2).bind fun y15 =>
      od_let ((v4 + 1) % 4294967296) fun y19 =>
      r15 y15.2 v1 y3.1 y15.1 y19
    else
      dk_122_69 R n F v1 v2 v3
theorem dk_122_15bT {d n : Nat} {R : dk_Rt} (hR : dk_spec (d + 12) R) {r15 : wq_F → Nat → Nat → Nat → Nat → Option (Nat × wq_F)} (hr15 : ∀ ⦃F : wq_F⦄ (hT : xm_T F) ⦃v1 : Nat⦄ (hv1 : v1 < 4294967296) ⦃v2 : Nat⦄ (hv2 : v2 < 4294967296) ⦃v3 : Nat⦄ (hv3 : v3 < 4294967296) ⦃v4 : Nat⦄ (hv4 : v4 < 4294967296) ⦃x : Nat × wq_F⦄ (h : r15 F v1 v2 v3 v4 = some x), wq (wq_cf (d + 12)) (ev_un al_mX4_ifStatement.2.2.2.2) none 15 [36893488147419103288, v1, v2, v3, v4] [] xm_sh F 0 0 (wkN xm_T xm_sh x)) : ∀ ⦃F : wq_F⦄ (hT : xm_T F) ⦃v1 : Nat⦄ (hv1 : v1 < 4294967296) ⦃v2 : Nat⦄ (hv2 : v2 < 4294967296) ⦃v3 : Nat⦄ (hv3 : v3 < 4294967296) ⦃v4 : Nat⦄ (hv4 : v4 < 4294967296) ⦃x : Nat × wq_F⦄ (h : dk_122_15b R n r15 F v1 v2 v3 v4 = some x), wq (wq_cf (d + 12)) (ev_un al_mX4_ifStatement.2.2.2.2) none 15 [36893488147419103288, v1, v2, v3, v4] [] xm_sh F 0 0 (wkN xm_T xm_sh x) := by
  intro F hT v1 hv1 v2 hv2 v3 hv3 v4 hv4 x h
  unfold dk_122_15b at h
  refine wq_iload rfl rfl hv4 ?_
  refine wq_sipush rfl rfl ?_
  refine wq_ic_gt rfl rfl hv4 (by decide) (fun h1 => ?_) (fun h1 => ?_)
  · replace h := od_pos h h1
    exact dk_122_69T hR hT hv1 hv2 hv3 (wq_notL hv4) h
  · replace h := od_neg h (Nat.not_lt.mpr h1)
    refine wq_aload_n rfl rfl rfl ?_
    refine xm_getR (v := 36893488147419103289) (q := 56) rfl rfl (by decide) (by decide) (hT.r (k := 56) 0 56 rfl (by decide) rfl) ?_
    refine xm_getI (q := 57) rfl rfl (by decide) (by decide) ?_
    refine wq_bipush rfl rfl ?_
    refine wq_ic_ne rfl rfl (hT.i (k := 57) 4 rfl (by decide) rfl) (by decide) (fun h2 => ?_) (fun h2 => ?_)
    · replace h := od_neg h h2
      exact dk_122_69T hR hT hv1 hv2 hv3 (wq_notL hv4) h
    · replace h := od_pos h h2
      refine wq_aload_n rfl rfl rfl ?_
      refine wq_bipush rfl rfl ?_
      refine wq_iconst rfl rfl ?_
      refine wq_iload_n rfl rfl hv2 ?_
      refine wq_iconst rfl rfl ?_
      obtain ⟨y3, e4, h⟩ := od_bindE h
      refine wd_virtI (q := 56) (y := y3) (as := [36893488147419103288, 21, 0, v2, 0]) rfl rfl rfl (by decide) (Nat.le_of_ble_eq_true rfl) (Nat.le_of_ble_eq_true rfl) rfl (Nat.le_of_ble_eq_true rfl) rfl (dkT_78 hT (by decide) (wm_zlt (by decide)) hv2 (wm_zlt (by decide)) e4) (fun p5 T6 => ?_)
      refine wq_istore_n rfl p5 (Nat.le_of_ble_eq_true rfl) (Or.inr ⟨_, rfl, (wq_notL hv1)⟩) (L' := [36893488147419103288, v1, y3.1, v3, v4]) rfl ?_
      refine wq_aload_n rfl rfl rfl ?_
      refine xm_getR (v := 36893488147419103243) (q := 56) rfl rfl (by decide) (by decide) (T6.r (k := 56) 1 10 rfl (by decide) rfl) ?_
      refine wq_iload_n rfl rfl hv3 ?_
      obtain ⟨y7, e8, h⟩ := od_bindE h
      refine wd_virtN (q := 11) (y := y7) (as := [36893488147419103243, v3]) rfl rfl rfl (by decide) (Nat.le_of_ble_eq_true rfl) (Nat.le_of_ble_eq_true rfl) rfl (Nat.le_of_ble_eq_true rfl) rfl (dkT_159 T6 hv3 e8) (fun T10 => ?_)
      refine wq_aload_n rfl rfl rfl ?_
      obtain ⟨y11, e12, h⟩ := od_bindE h
      refine wd_virtN (q := 56) (y := y11) (as := [36893488147419103288]) rfl rfl rfl (by decide) (Nat.le_of_ble_eq_true rfl) (Nat.le_of_ble_eq_true rfl) rfl (Nat.le_of_ble_eq_true rfl) rfl (dkT_77 T10 e12) (fun T14 => ?_)
      refine wq_aload_n rfl rfl rfl ?_
      refine wq_iload_n rfl rfl hv1 ?_
      obtain ⟨y15, e16, h⟩ := od_bindE h
      refine wd_virtI (q := 56) (y := y15) (as := [36893488147419103288, v1]) rfl rfl rfl (by decide) (Nat.le_of_ble_eq_true rfl) (Nat.le_of_ble_eq_true rfl) rfl (Nat.le_of_ble_eq_true rfl) rfl (dk_s123 hR T14 hv1 e16) (fun p17 T18 => ?_)
      refine wq_istore_n rfl p17 (Nat.le_of_ble_eq_true rfl) (Or.inr ⟨_, rfl, (wq_notL p5)⟩) (L' := [36893488147419103288, v1, y3.1, y15.1, v4]) rfl ?_
      obtain ⟨y19, e20, h⟩ := od_letE h
      have p21 : y19 < 4294967296 := wd_lt e20 (Nat.mod_lt _ (by decide))
      refine wq_iincZ rfl rfl hv4 (Or.inr ⟨_, rfl, (wq_notL p17)⟩) rfl (z := y19) e20.symm (L' := [36893488147419103288, v1, y3.1, y15.1, y19]) rfl ?_
      refine wq_goto rfl rfl ?_
      exact hr15 T18 hv1 p5 p17 p21 h
def dk_122_15 (R : dk_Rt) (n : Nat) : Nat → wq_F → Nat → Nat → Nat → Nat → Option (Nat × wq_F)
  | 0 => fun _ _ _ _ _ => none
  | g + 1 => dk_122_15b R n (dk_122_15 R n g)
theorem dk_122_15T {d n : Nat} {R : dk_Rt} (hR : dk_spec (d + 12) R) : ∀ g : Nat, ∀ ⦃F : wq_F⦄ (hT : xm_T F) ⦃v1 : Nat⦄ (hv1 : v1 < 4294967296) ⦃v2 : Nat⦄ (hv2 : v2 < 4294967296) ⦃v3 : Nat⦄ (hv3 : v3 < 4294967296) ⦃v4 : Nat⦄ (hv4 : v4 < 4294967296) ⦃x : Nat × wq_F⦄ (h : dk_122_15 R n g F v1 v2 v3 v4 = some x), wq (wq_cf (d + 12)) (ev_un al_mX4_ifStatement.2.2.2.2) none 15 [36893488147419103288, v1, v2, v3, v4] [] xm_sh F 0 0 (wkN xm_T xm_sh x)
  | 0 => by
    intro F hT v1 hv1 v2 hv2 v3 hv3 v4 hv4 x h
    cases h
  | g + 1 => dk_122_15bT hR (dk_122_15T hR g)
/-- X4_ifStatement -/
def dk_122 (R : dk_Rt) (n : Nat) (F : wq_F) (a0 : Nat) : Option (Nat × wq_F) :=
  (dk_77 n F).bind fun y1 =>
  (R 123 [a0] y1.2).bind fun y5 =>
  dk_122_15 R n n y5.2 a0 4294967295 y5.1 0
theorem dkT_122 {d n : Nat} {R : dk_Rt} (hR : dk_spec (d + 12) R) {F : wq_F} (hT : xm_T F) {a0 : Nat} (ha0 : a0 < 4294967296) {x : Nat × wq_F} (h : dk_122 R n F a0 = some x) : mq (d + 12 + 1) 122 [36893488147419103288, a0] xm_sh F (wkN xm_T xm_sh x) := by
  have e : ev_ent [36893488147419103288, a0] = [36893488147419103288, a0] := by
    show 36893488147419103288 :: ev_ent [a0] = _
    rw [wm_entI ha0]
    rfl
  refine mq_of (maxL := 5) (rt := none) (code := (ev_un al_mX4_ifStatement.2.2.2.2)) (L := [36893488147419103288, a0, 73786976294838206464, 73786976294838206464, 73786976294838206464]) rfl (by rw [e]; exact Nat.le_of_ble_eq_true rfl) (by rw [e]; rfl) ?_
  unfold dk_122 at h
  refine wq_iconst rfl rfl ?_
  refine wq_istore_n rfl (by decide) (Nat.le_of_ble_eq_true rfl) (Or.inr ⟨_, rfl, (wq_notL ha0)⟩) (L' := [36893488147419103288, a0, 4294967295, 73786976294838206464, 73786976294838206464]) rfl ?_
  refine wq_aload_n rfl rfl rfl ?_
  obtain ⟨y1, e2, h⟩ := od_bindE h
  refine wd_virtN (q := 56) (y := y1) (as := [36893488147419103288]) rfl rfl rfl (by decide) (Nat.le_of_ble_eq_true rfl) (Nat.le_of_ble_eq_true rfl) rfl (Nat.le_of_ble_eq_true rfl) rfl (dkT_77 hT e2) (fun T4 => ?_)
  refine wq_aload_n rfl rfl rfl ?_
  refine wq_iload_n rfl rfl ha0 ?_
  obtain ⟨y5, e6, h⟩ := od_bindE h
  refine wd_virtI (q := 56) (y := y5) (as := [36893488147419103288, a0]) rfl rfl rfl (by decide) (Nat.le_of_ble_eq_true rfl) (Nat.le_of_ble_eq_true rfl) rfl (Nat.le_of_ble_eq_true rfl) rfl (dk_s123 hR T4 ha0 e6) (fun p7 T8 => ?_)
  refine wq_istore_n rfl p7 (Nat.le_of_ble_eq_true rfl) (Or.inr ⟨_, rfl, (wq_notL (by decide))⟩) (L' := [36893488147419103288, a0, 4294967295, y5.1, 73786976294838206464]) rfl ?_
  refine wq_iconst rfl rfl ?_
  refine wq_istore rfl (wm_zlt (by decide)) (Nat.le_of_ble_eq_true rfl) (Or.inr ⟨_, rfl, (wq_notL p7)⟩) (L' := [36893488147419103288, a0, 4294967295, y5.1, 0]) rfl ?_
  exact dk_122_15T hR n T8 ha0 (by decide) p7 (wm_zlt (by decide)) h
/-- X4_condition -/
def dk_123 (R : dk_Rt) (n : Nat) (F : wq_F) (a0 : Nat) : Option (Nat × wq_F) :=
  (R 148 [0, (a0 + 1) % 4294967296] F).bind fun y1 =>
  (dk_110 n y1.2 27).bind fun y5 =>
  (dk_78 y5.2 22 0 4294967295 0).bind fun y9 =>
  (dk_163 y9.2 4294967295).bind fun y13 =>
  (R 115 [(a0 + 1) % 4294967296] y13.2).bind fun y17 =>
  some (y9.1, y17.2)
theorem dkT_123 {d n : Nat} {R : dk_Rt} (hR : dk_spec (d + 12) R) {F : wq_F} (hT : xm_T F) {a0 : Nat} (ha0 : a0 < 4294967296) {x : Nat × wq_F} (h : dk_123 R n F a0 = some x) : mq (d + 12 + 1) 123 [36893488147419103288, a0] xm_sh F (wkI xm_T xm_sh x) := by
  have e : ev_ent [36893488147419103288, a0] = [36893488147419103288, a0] := by
    show 36893488147419103288 :: ev_ent [a0] = _
    rw [wm_entI ha0]
    rfl
  refine mq_of (maxL := 3) (rt := (some .int)) (code := (ev_un al_mX4_condition.2.2.2.2)) (L := [36893488147419103288, a0, 73786976294838206464]) rfl (by rw [e]; exact Nat.le_of_ble_eq_true rfl) (by rw [e]; rfl) ?_
  unfold dk_123 at h
  refine wq_aload_n rfl rfl rfl ?_
  refine wq_iconst rfl rfl ?_
  refine wq_iload_n rfl rfl ha0 ?_
  refine wq_iconst rfl rfl ?_
  refine wq_iaddZ rfl ha0 (wm_zlt (by decide)) (z := (a0 + 1) % 4294967296) rfl ?_
  obtain ⟨y1, e2, h⟩ := od_bindE h
  refine wd_virtZ (q := 56) (y := y1) (as := [36893488147419103288, 0, (a0 + 1) % 4294967296]) rfl rfl rfl (by decide) (Nat.le_of_ble_eq_true rfl) (Nat.le_of_ble_eq_true rfl) rfl (Nat.le_of_ble_eq_true rfl) rfl (dk_s148 hR hT (wm_zlt (by decide)) (Nat.mod_lt _ (by decide)) e2) (fun p3 T4 => ?_)
  refine wq_pop rfl (wq_notL (wm_zlt p3)) ?_
  refine wq_aload_n rfl rfl rfl ?_
  refine wq_bipush rfl rfl ?_
  obtain ⟨y5, e6, h⟩ := od_bindE h
  refine wd_virtN (q := 56) (y := y5) (as := [36893488147419103288, 27]) rfl rfl rfl (by decide) (Nat.le_of_ble_eq_true rfl) (Nat.le_of_ble_eq_true rfl) rfl (Nat.le_of_ble_eq_true rfl) rfl (dkT_110 T4 (by decide) e6) (fun T8 => ?_)
  refine wq_aload_n rfl rfl rfl ?_
  refine wq_bipush rfl rfl ?_
  refine wq_iconst rfl rfl ?_
  refine wq_iconst rfl rfl ?_
  refine wq_iconst rfl rfl ?_
  obtain ⟨y9, e10, h⟩ := od_bindE h
  refine wd_virtI (q := 56) (y := y9) (as := [36893488147419103288, 22, 0, 4294967295, 0]) rfl rfl rfl (by decide) (Nat.le_of_ble_eq_true rfl) (Nat.le_of_ble_eq_true rfl) rfl (Nat.le_of_ble_eq_true rfl) rfl (dkT_78 T8 (by decide) (wm_zlt (by decide)) (by decide) (wm_zlt (by decide)) e10) (fun p11 T12 => ?_)
  refine wq_istore_n rfl p11 (Nat.le_of_ble_eq_true rfl) (Or.inr ⟨_, rfl, (wq_notL ha0)⟩) (L' := [36893488147419103288, a0, y9.1]) rfl ?_
  refine wq_aload_n rfl rfl rfl ?_
  refine xm_getR (v := 36893488147419103291) (q := 56) rfl rfl (by decide) (by decide) (T12.r (k := 56) 3 58 rfl (by decide) rfl) ?_
  refine wq_iconst rfl rfl ?_
  obtain ⟨y13, e14, h⟩ := od_bindE h
  refine wd_virtN (q := 59) (y := y13) (as := [36893488147419103291, 4294967295]) rfl rfl rfl (by decide) (Nat.le_of_ble_eq_true rfl) (Nat.le_of_ble_eq_true rfl) rfl (Nat.le_of_ble_eq_true rfl) rfl (dkT_163 T12 (by decide) e14) (fun T16 => ?_)
  refine wq_aload_n rfl rfl rfl ?_
  refine wq_iload_n rfl rfl ha0 ?_
  refine wq_iconst rfl rfl ?_
  refine wq_iaddZ rfl ha0 (wm_zlt (by decide)) (z := (a0 + 1) % 4294967296) rfl ?_
  obtain ⟨y17, e18, h⟩ := od_bindE h
  refine wd_virtN (q := 56) (y := y17) (as := [36893488147419103288, (a0 + 1) % 4294967296]) rfl rfl rfl (by decide) (Nat.le_of_ble_eq_true rfl) (Nat.le_of_ble_eq_true rfl) rfl (Nat.le_of_ble_eq_true rfl) rfl (dk_s115 hR T16 (Nat.mod_lt _ (by decide)) e18) (fun T20 => ?_)
  refine wq_iload_n rfl rfl p11 ?_
  exact wq_iret rfl p11 rfl (wkOI h T20 p11)
/-- X4_forStatement -/
def dk_126 (R : dk_Rt) (n : Nat) (F : wq_F) (a0 : Nat) : Option (Nat × wq_F) :=
  (dk_77 n F).bind fun y1 =>
  (dk_124 y1.2).bind fun y5 =>
  (dk_77 n y5.2).bind fun y9 =>
  if (y9.2 57 4) = 49 then
    (R 127 [a0, F 57 6, F 59 3] y9.2).bind fun y26 =>
    (dk_168 y26.2 (F 59 3)).bind fun y30 =>
    some (0, y30.2)
  else
    (dk_125 n y9.2).bind fun y14 =>
    (R 128 [a0, F 59 3] y14.2).bind fun y18 =>
    (dk_168 y18.2 (F 59 3)).bind fun y22 =>
    some (0, y22.2)
theorem dkT_126 {d n : Nat} {R : dk_Rt} (hR : dk_spec (d + 12) R) {F : wq_F} (hT : xm_T F) {a0 : Nat} (ha0 : a0 < 4294967296) {x : Nat × wq_F} (h : dk_126 R n F a0 = some x) : mq (d + 12 + 1) 126 [36893488147419103288, a0] xm_sh F (wkN xm_T xm_sh x) := by
  have e : ev_ent [36893488147419103288, a0] = [36893488147419103288, a0] := by
    show 36893488147419103288 :: ev_ent [a0] = _
    rw [wm_entI ha0]
    rfl
  refine mq_of (maxL := 4) (rt := none) (code := (ev_un al_mX4_forStatement.2.2.2.2)) (L := [36893488147419103288, a0, 73786976294838206464, 73786976294838206464]) rfl (by rw [e]; exact Nat.le_of_ble_eq_true rfl) (by rw [e]; rfl) ?_
  unfold dk_126 at h
  refine wq_aload_n rfl rfl rfl ?_
  refine xm_getR (v := 36893488147419103289) (q := 56) rfl rfl (by decide) (by decide) (hT.r (k := 56) 0 56 rfl (by decide) rfl) ?_
  refine xm_getI (q := 57) rfl rfl (by decide) (by decide) ?_
  refine wq_istore_n rfl (hT.i (k := 57) 6 rfl (by decide) rfl) (Nat.le_of_ble_eq_true rfl) (Or.inr ⟨_, rfl, (wq_notL ha0)⟩) (L' := [36893488147419103288, a0, F 57 6, 73786976294838206464]) rfl ?_
  refine wq_aload_n rfl rfl rfl ?_
  refine xm_getR (v := 36893488147419103291) (q := 56) rfl rfl (by decide) (by decide) (hT.r (k := 56) 3 58 rfl (by decide) rfl) ?_
  refine xm_getI (q := 59) rfl rfl (by decide) (by decide) ?_
  refine wq_istore_n rfl (hT.i (k := 59) 3 rfl (by decide) rfl) (Nat.le_of_ble_eq_true rfl) (Or.inr ⟨_, rfl, (wq_notL (hT.i (k := 57) 6 rfl (by decide) rfl))⟩) (L' := [36893488147419103288, a0, F 57 6, F 59 3]) rfl ?_
  refine wq_aload_n rfl rfl rfl ?_
  obtain ⟨y1, e2, h⟩ := od_bindE h
  refine wd_virtN (q := 56) (y := y1) (as := [36893488147419103288]) rfl rfl rfl (by decide) (Nat.le_of_ble_eq_true rfl) (Nat.le_of_ble_eq_true rfl) rfl (Nat.le_of_ble_eq_true rfl) rfl (dkT_77 hT e2) (fun T4 => ?_)
  refine wq_aload_n rfl rfl rfl ?_
  obtain ⟨y5, e6, h⟩ := od_bindE h
  refine wd_virtN (q := 56) (y := y5) (as := [36893488147419103288]) rfl rfl rfl (by decide) (Nat.le_of_ble_eq_true rfl) (Nat.le_of_ble_eq_true rfl) rfl (Nat.le_of_ble_eq_true rfl) rfl (dkT_124 T4 e6) (fun T8 => ?_)
  refine wq_aload_n rfl rfl rfl ?_
  obtain ⟨y9, e10, h⟩ := od_bindE h
  refine wd_virtN (q := 56) (y := y9) (as := [36893488147419103288]) rfl rfl rfl (by decide) (Nat.le_of_ble_eq_true rfl) (Nat.le_of_ble_eq_true rfl) rfl (Nat.le_of_ble_eq_true rfl) rfl (dkT_77 T8 e10) (fun T12 => ?_)
  refine wq_aload_n rfl rfl rfl ?_
  refine xm_getR (v := 36893488147419103289) (q := 56) rfl rfl (by decide) (by decide) (T12.r (k := 56) 0 56 rfl (by decide) rfl) ?_
  refine xm_getI (q := 57) rfl rfl (by decide) (by decide) ?_
  refine wq_bipush rfl rfl ?_
  refine wq_ic_ne rfl rfl (T12.i (k := 57) 4 rfl (by decide) rfl) (by decide) (fun h13 => ?_) (fun h13 => ?_)
  · replace h := od_neg h h13
    refine wq_aload_n rfl rfl rfl ?_
    obtain ⟨y14, e15, h⟩ := od_bindE h
    refine wd_virtN (q := 56) (y := y14) (as := [36893488147419103288]) rfl rfl rfl (by decide) (Nat.le_of_ble_eq_true rfl) (Nat.le_of_ble_eq_true rfl) rfl (Nat.le_of_ble_eq_true rfl) rfl (dkT_125 T12 e15) (fun T17 => ?_)
    refine wq_aload_n rfl rfl rfl ?_
    refine wq_iload_n rfl rfl ha0 ?_
    refine wq_iload_n rfl rfl (hT.i (k := 59) 3 rfl (by decide) rfl) ?_
    obtain ⟨y18, e19, h⟩ := od_bindE h
    refine wd_virtN (q := 56) (y := y18) (as := [36893488147419103288, a0, F 59 3]) rfl rfl rfl (by decide) (Nat.le_of_ble_eq_true rfl) (Nat.le_of_ble_eq_true rfl) rfl (Nat.le_of_ble_eq_true rfl) rfl (dk_s128 hR T17 ha0 (hT.i (k := 59) 3 rfl (by decide) rfl) e19) (fun T21 => ?_)
    refine wq_aload_n rfl rfl rfl ?_
    refine xm_getR (v := 36893488147419103291) (q := 56) rfl rfl (by decide) (by decide) (T21.r (k := 56) 3 58 rfl (by decide) rfl) ?_
    refine wq_iload_n rfl rfl (hT.i (k := 59) 3 rfl (by decide) rfl) ?_
    obtain ⟨y22, e23, h⟩ := od_bindE h
    refine wd_virtN (q := 59) (y := y22) (as := [36893488147419103291, F 59 3]) rfl rfl rfl (by decide) (Nat.le_of_ble_eq_true rfl) (Nat.le_of_ble_eq_true rfl) rfl (Nat.le_of_ble_eq_true rfl) rfl (dkT_168 T21 (hT.i (k := 59) 3 rfl (by decide) rfl) e23) (fun T25 => ?_)
    exact wq_ret rfl (wkON h T25)
  · replace h := od_pos h h13
    refine wq_aload_n rfl rfl rfl ?_
    refine wq_iload_n rfl rfl ha0 ?_
    refine wq_iload_n rfl rfl (hT.i (k := 57) 6 rfl (by decide) rfl) ?_
    refine wq_iload_n rfl rfl (hT.i (k := 59) 3 rfl (by decide) rfl) ?_
    obtain ⟨y26, e27, h⟩ := od_bindE h
    refine wd_virtN (q := 56) (y := y26) (as := [36893488147419103288, a0, F 57 6, F 59 3]) rfl rfl rfl (by decide) (Nat.le_of_ble_eq_true rfl) (Nat.le_of_ble_eq_true rfl) rfl (Nat.le_of_ble_eq_true rfl) rfl (dk_s127 hR T12 ha0 (hT.i (k := 57) 6 rfl (by decide) rfl) (hT.i (k := 59) 3 rfl (by decide) rfl) e27) (fun T29 => ?_)
    refine wq_goto rfl rfl ?_
    refine wq_aload_n rfl rfl rfl ?_
    refine xm_getR (v := 36893488147419103291) (q := 56) rfl rfl (by decide) (by decide) (T29.r (k := 56) 3 58 rfl (by decide) rfl) ?_
    refine wq_iload_n rfl rfl (hT.i (k := 59) 3 rfl (by decide) rfl) ?_
    obtain ⟨y30, e31, h⟩ := od_bindE h
    refine wd_virtN (q := 59) (y := y30) (as := [36893488147419103291, F 59 3]) rfl rfl rfl (by decide) (Nat.le_of_ble_eq_true rfl) (Nat.le_of_ble_eq_true rfl) rfl (Nat.le_of_ble_eq_true rfl) rfl (dkT_168 T29 (hT.i (k := 59) 3 rfl (by decide) rfl) e31) (fun T33 => ?_)
    exact wq_ret rfl (wkON h T33)
def dk_127_82 (R : dk_Rt) (n : Nat) (F : wq_F) (v1 : Nat) (v2 : Nat) (v3 : Nat) (v4 : Nat) (v5 : Nat) : Option (Nat × wq_F) :=
  (dk_78 F 31 v5 0 v2).bind fun y1 =>
  (dk_78 y1.2 0 0 0 0).bind fun y5 =>
  (dk_78 y5.2 32 v5 4294967295 0).bind fun y9 =>
  (dk_165 y9.2 y9.1).bind fun y13 =>
  (dk_110 n y13.2 12).bind fun y17 =>
  (dk_162 y17.2 ((v5 + 4) % 4294967296)).bind fun y21 =>
  (dk_167 n y21.2 v3 ((v5 + 3) % 4294967296)).bind fun y25 =>
  (R 80 [(v1 + 1) % 4294967296] y25.2).bind fun y29 =>
  (dk_110 n y29.2 15).bind fun y33 =>
  (dk_113 y33.2 ((v5 + 3) % 4294967296)).bind fun y37 =>
  (dk_78 y37.2 33 v5 (y1.2 11 4) 0).bind fun y41 =>
  (dk_120 n y41.2 v5 v4).bind fun y45 =>
  some (0, y45.2)
theorem dk_127_82T {d n : Nat} {R : dk_Rt} (hR : dk_spec (d + 12) R) : ∀ ⦃F : wq_F⦄ (hT : xm_T F) ⦃v1 : Nat⦄ (hv1 : v1 < 4294967296) ⦃v2 : Nat⦄ (hv2 : v2 < 4294967296) ⦃v3 : Nat⦄ (hv3 : v3 < 4294967296) ⦃v4 : Nat⦄ (hv4 : v4 < 4294967296) ⦃v5 : Nat⦄ (hv5 : v5 < 4294967296) ⦃x : Nat × wq_F⦄ (h : dk_127_82 R n F v1 v2 v3 v4 v5 = some x), wq (wq_cf (d + 12)) (ev_un al_mX4_countingFor.2.2.2.2) none 82 [36893488147419103288, v1, v2, v3, v4, v5, 73786976294838206464] [] xm_sh F 0 0 (wkN xm_T xm_sh x) := by
  intro F hT v1 hv1 v2 hv2 v3 hv3 v4 hv4 v5 hv5 x h
  unfold dk_127_82 at h
  refine wq_aload_n rfl rfl rfl ?_
  refine wq_bipush rfl rfl ?_
  refine wq_iload rfl rfl hv5 ?_
  refine wq_iconst rfl rfl ?_
  refine wq_iload_n rfl rfl hv2 ?_
  obtain ⟨y1, e2, h⟩ := od_bindE h
  refine wd_virtI (q := 56) (y := y1) (as := [36893488147419103288, 31, v5, 0, v2]) rfl rfl rfl (by decide) (Nat.le_of_ble_eq_true rfl) (Nat.le_of_ble_eq_true rfl) rfl (Nat.le_of_ble_eq_true rfl) rfl (dkT_78 hT (by decide) hv5 (wm_zlt (by decide)) hv2 e2) (fun p3 T4 => ?_)
  refine wq_pop rfl (wq_notL p3) ?_
  refine wq_aload_n rfl rfl rfl ?_
  refine xm_getR (v := 36893488147419103243) (q := 56) rfl rfl (by decide) (by decide) (T4.r (k := 56) 1 10 rfl (by decide) rfl) ?_
  refine xm_getI (q := 11) rfl rfl (by decide) (by decide) ?_
  refine wq_istore rfl (T4.i (k := 11) 4 rfl (by decide) rfl) (Nat.le_of_ble_eq_true rfl) (Or.inr ⟨_, rfl, (wq_notL hv5)⟩) (L' := [36893488147419103288, v1, v2, v3, v4, v5, y1.2 11 4]) rfl ?_
  refine wq_aload_n rfl rfl rfl ?_
  refine wq_iconst rfl rfl ?_
  refine wq_iconst rfl rfl ?_
  refine wq_iconst rfl rfl ?_
  refine wq_iconst rfl rfl ?_
  obtain ⟨y5, e6, h⟩ := od_bindE h
  refine wd_virtI (q := 56) (y := y5) (as := [36893488147419103288, 0, 0, 0, 0]) rfl rfl rfl (by decide) (Nat.le_of_ble_eq_true rfl) (Nat.le_of_ble_eq_true rfl) rfl (Nat.le_of_ble_eq_true rfl) rfl (dkT_78 T4 (wm_zlt (by decide)) (wm_zlt (by decide)) (wm_zlt (by decide)) (wm_zlt (by decide)) e6) (fun p7 T8 => ?_)
  refine wq_pop rfl (wq_notL p7) ?_
  refine wq_aload_n rfl rfl rfl ?_
  refine xm_getR (v := 36893488147419103291) (q := 56) rfl rfl (by decide) (by decide) (T8.r (k := 56) 3 58 rfl (by decide) rfl) ?_
  refine wq_aload_n rfl rfl rfl ?_
  refine wq_bipush rfl rfl ?_
  refine wq_iload rfl rfl hv5 ?_
  refine wq_iconst rfl rfl ?_
  refine wq_iconst rfl rfl ?_
  obtain ⟨y9, e10, h⟩ := od_bindE h
  refine wd_virtI (q := 56) (y := y9) (as := [36893488147419103288, 32, v5, 4294967295, 0]) rfl rfl rfl (by decide) (Nat.le_of_ble_eq_true rfl) (Nat.le_of_ble_eq_true rfl) rfl (Nat.le_of_ble_eq_true rfl) rfl (dkT_78 T8 (by decide) hv5 (by decide) (wm_zlt (by decide)) e10) (fun p11 T12 => ?_)
  obtain ⟨y13, e14, h⟩ := od_bindE h
  refine wd_virtN (q := 59) (y := y13) (as := [36893488147419103291, y9.1]) rfl rfl rfl (by decide) (Nat.le_of_ble_eq_true rfl) (Nat.le_of_ble_eq_true rfl) rfl (Nat.le_of_ble_eq_true rfl) rfl (dkT_165 T12 p11 e14) (fun T16 => ?_)
  refine wq_aload_n rfl rfl rfl ?_
  refine wq_bipush rfl rfl ?_
  obtain ⟨y17, e18, h⟩ := od_bindE h
  refine wd_virtN (q := 56) (y := y17) (as := [36893488147419103288, 12]) rfl rfl rfl (by decide) (Nat.le_of_ble_eq_true rfl) (Nat.le_of_ble_eq_true rfl) rfl (Nat.le_of_ble_eq_true rfl) rfl (dkT_110 T16 (by decide) e18) (fun T20 => ?_)
  refine wq_aload_n rfl rfl rfl ?_
  refine xm_getR (v := 36893488147419103291) (q := 56) rfl rfl (by decide) (by decide) (T20.r (k := 56) 3 58 rfl (by decide) rfl) ?_
  refine wq_iload rfl rfl hv5 ?_
  refine wq_iconst rfl rfl ?_
  refine wq_iaddZ rfl hv5 (by decide) (z := (v5 + 4) % 4294967296) rfl ?_
  obtain ⟨y21, e22, h⟩ := od_bindE h
  refine wd_virtN (q := 59) (y := y21) (as := [36893488147419103291, (v5 + 4) % 4294967296]) rfl rfl rfl (by decide) (Nat.le_of_ble_eq_true rfl) (Nat.le_of_ble_eq_true rfl) rfl (Nat.le_of_ble_eq_true rfl) rfl (dkT_162 T20 (Nat.mod_lt _ (by decide)) e22) (fun T24 => ?_)
  refine wq_aload_n rfl rfl rfl ?_
  refine xm_getR (v := 36893488147419103291) (q := 56) rfl rfl (by decide) (by decide) (T24.r (k := 56) 3 58 rfl (by decide) rfl) ?_
  refine wq_iload_n rfl rfl hv3 ?_
  refine wq_iload rfl rfl hv5 ?_
  refine wq_iconst rfl rfl ?_
  refine wq_iaddZ rfl hv5 (by decide) (z := (v5 + 3) % 4294967296) rfl ?_
  obtain ⟨y25, e26, h⟩ := od_bindE h
  refine wd_virtN (q := 59) (y := y25) (as := [36893488147419103291, v3, (v5 + 3) % 4294967296]) rfl rfl rfl (by decide) (Nat.le_of_ble_eq_true rfl) (Nat.le_of_ble_eq_true rfl) rfl (Nat.le_of_ble_eq_true rfl) rfl (dkT_167 T24 hv3 (Nat.mod_lt _ (by decide)) e26) (fun T28 => ?_)
  refine wq_aload_n rfl rfl rfl ?_
  refine wq_iload_n rfl rfl hv1 ?_
  refine wq_iconst rfl rfl ?_
  refine wq_iaddZ rfl hv1 (wm_zlt (by decide)) (z := (v1 + 1) % 4294967296) rfl ?_
  obtain ⟨y29, e30, h⟩ := od_bindE h
  refine wd_virtN (q := 56) (y := y29) (as := [36893488147419103288, (v1 + 1) % 4294967296]) rfl rfl rfl (by decide) (Nat.le_of_ble_eq_true rfl) (Nat.le_of_ble_eq_true rfl) rfl (Nat.le_of_ble_eq_true rfl) rfl (dk_s80 hR T28 (Nat.mod_lt _ (by decide)) e30) (fun T32 => ?_)
  refine wq_aload_n rfl rfl rfl ?_
  refine wq_bipush rfl rfl ?_
  obtain ⟨y33, e34, h⟩ := od_bindE h
  refine wd_virtN (q := 56) (y := y33) (as := [36893488147419103288, 15]) rfl rfl rfl (by decide) (Nat.le_of_ble_eq_true rfl) (Nat.le_of_ble_eq_true rfl) rfl (Nat.le_of_ble_eq_true rfl) rfl (dkT_110 T32 (by decide) e34) (fun T36 => ?_)
  refine wq_aload_n rfl rfl rfl ?_
  refine wq_iload rfl rfl hv5 ?_
  refine wq_iconst rfl rfl ?_
  refine wq_iaddZ rfl hv5 (by decide) (z := (v5 + 3) % 4294967296) rfl ?_
  obtain ⟨y37, e38, h⟩ := od_bindE h
  refine wd_virtN (q := 56) (y := y37) (as := [36893488147419103288, (v5 + 3) % 4294967296]) rfl rfl rfl (by decide) (Nat.le_of_ble_eq_true rfl) (Nat.le_of_ble_eq_true rfl) rfl (Nat.le_of_ble_eq_true rfl) rfl (dkT_113 T36 (Nat.mod_lt _ (by decide)) e38) (fun T40 => ?_)
  refine wq_aload_n rfl rfl rfl ?_
  refine wq_bipush rfl rfl ?_
  refine wq_iload rfl rfl hv5 ?_
  refine wq_iload rfl rfl (T4.i (k := 11) 4 rfl (by decide) rfl) ?_
  refine wq_iconst rfl rfl ?_
  obtain ⟨y41, e42, h⟩ := od_bindE h
  refine wd_virtI (q := 56) (y := y41) (as := [36893488147419103288, 33, v5, y1.2 11 4, 0]) rfl rfl rfl (by decide) (Nat.le_of_ble_eq_true rfl) (Nat.le_of_ble_eq_true rfl) rfl (Nat.le_of_ble_eq_true rfl) rfl (dkT_78 T40 (by decide) hv5 (T4.i (k := 11) 4 rfl (by decide) rfl) (wm_zlt (by decide)) e42) (fun p43 T44 => ?_)
  refine wq_pop rfl (wq_notL p43) ?_
  refine wq_aload_n rfl rfl rfl ?_
  refine wq_iload rfl rfl hv5 ?_
  refine wq_iload rfl rfl hv4 ?_
  obtain ⟨y45, e46, h⟩ := od_bindE h
  refine wd_virtN (q := 56) (y := y45) (as := [36893488147419103288, v5, v4]) rfl rfl rfl (by decide) (Nat.le_of_ble_eq_true rfl) (Nat.le_of_ble_eq_true rfl) rfl (Nat.le_of_ble_eq_true rfl) rfl (dkT_120 T44 hv5 hv4 e46) (fun T48 => ?_)
  exact wq_ret rfl (wkON h T48)
/-- X4_countingFor -/
def dk_127 (R : dk_Rt) (n : Nat) (F : wq_F) (a0 : Nat) (a1 : Nat) (a2 : Nat) : Option (Nat × wq_F) :=
  (dk_164 F).bind fun y1 =>
  (dk_84 y1.2).bind fun y5 =>
  (dk_77 n y5.2).bind fun y9 =>
  (R 148 [0, (a0 + 1) % 4294967296] y9.2).bind fun y13 =>
  (dk_110 n y13.2 59).bind fun y17 =>
  (R 148 [0, (a0 + 1) % 4294967296] y17.2).bind fun y21 =>
  (dk_111 n y21.2 59).bind fun y25 =>
  if y25.1 = 0 then
    (dk_157 y25.2 18446744073709551617).bind fun y30 =>
    (dk_112 y30.2 3 y30.1 a1 1).bind fun y34 =>
    dk_127_82 R n y34.2 a0 a1 a2 y1.1 y5.1
  else
    (R 148 [0, (a0 + 1) % 4294967296] y25.2).bind fun y38 =>
    dk_127_82 R n y38.2 a0 a1 a2 y1.1 y5.1
theorem dkT_127 {d n : Nat} {R : dk_Rt} (hR : dk_spec (d + 12) R) {F : wq_F} (hT : xm_T F) {a0 : Nat} (ha0 : a0 < 4294967296) {a1 : Nat} (ha1 : a1 < 4294967296) {a2 : Nat} (ha2 : a2 < 4294967296) {x : Nat × wq_F} (h : dk_127 R n F a0 a1 a2 = some x) : mq (d + 12 + 1) 127 [36893488147419103288, a0, a1, a2] xm_sh F (wkN xm_T xm_sh x) := by
  have e : ev_ent [36893488147419103288, a0, a1, a2] = [36893488147419103288, a0, a1, a2] := by
    show 36893488147419103288 :: ev_ent [a0, a1, a2] = _
    rw [wm_entI ha0, wm_entI ha1, wm_entI ha2]
    rfl
  refine mq_of (maxL := 7) (rt := none) (code := (ev_un al_mX4_countingFor.2.2.2.2)) (L := [36893488147419103288, a0, a1, a2, 73786976294838206464, 73786976294838206464, 73786976294838206464]) rfl (by rw [e]; exact Nat.le_of_ble_eq_true rfl) (by rw [e]; rfl) ?_
  unfold dk_127 at h
  refine wq_aload_n rfl rfl rfl ?_
  refine xm_getR (v := 36893488147419103291) (q := 56) rfl rfl (by decide) (by decide) (hT.r (k := 56) 3 58 rfl (by decide) rfl) ?_
  obtain ⟨y1, e2, h⟩ := od_bindE h
  refine wd_virtI (q := 59) (y := y1) (as := [36893488147419103291]) rfl rfl rfl (by decide) (Nat.le_of_ble_eq_true rfl) (Nat.le_of_ble_eq_true rfl) rfl (Nat.le_of_ble_eq_true rfl) rfl (dkT_164 hT e2) (fun p3 T4 => ?_)
  refine wq_istore rfl p3 (Nat.le_of_ble_eq_true rfl) (Or.inr ⟨_, rfl, (wq_notL ha2)⟩) (L' := [36893488147419103288, a0, a1, a2, y1.1, 73786976294838206464, 73786976294838206464]) rfl ?_
  refine wq_aload_n rfl rfl rfl ?_
  refine xm_getR (v := 36893488147419103291) (q := 56) rfl rfl (by decide) (by decide) (T4.r (k := 56) 3 58 rfl (by decide) rfl) ?_
  obtain ⟨y5, e6, h⟩ := od_bindE h
  refine wd_virtI (q := 59) (y := y5) (as := [36893488147419103291]) rfl rfl rfl (by decide) (Nat.le_of_ble_eq_true rfl) (Nat.le_of_ble_eq_true rfl) rfl (Nat.le_of_ble_eq_true rfl) rfl (dkT_84 T4 e6) (fun p7 T8 => ?_)
  refine wq_istore rfl p7 (Nat.le_of_ble_eq_true rfl) (Or.inr ⟨_, rfl, (wq_notL p3)⟩) (L' := [36893488147419103288, a0, a1, a2, y1.1, y5.1, 73786976294838206464]) rfl ?_
  refine wq_aload_n rfl rfl rfl ?_
  obtain ⟨y9, e10, h⟩ := od_bindE h
  refine wd_virtN (q := 56) (y := y9) (as := [36893488147419103288]) rfl rfl rfl (by decide) (Nat.le_of_ble_eq_true rfl) (Nat.le_of_ble_eq_true rfl) rfl (Nat.le_of_ble_eq_true rfl) rfl (dkT_77 T8 e10) (fun T12 => ?_)
  refine wq_aload_n rfl rfl rfl ?_
  refine wq_iconst rfl rfl ?_
  refine wq_iload_n rfl rfl ha0 ?_
  refine wq_iconst rfl rfl ?_
  refine wq_iaddZ rfl ha0 (wm_zlt (by decide)) (z := (a0 + 1) % 4294967296) rfl ?_
  obtain ⟨y13, e14, h⟩ := od_bindE h
  refine wd_virtZ (q := 56) (y := y13) (as := [36893488147419103288, 0, (a0 + 1) % 4294967296]) rfl rfl rfl (by decide) (Nat.le_of_ble_eq_true rfl) (Nat.le_of_ble_eq_true rfl) rfl (Nat.le_of_ble_eq_true rfl) rfl (dk_s148 hR T12 (wm_zlt (by decide)) (Nat.mod_lt _ (by decide)) e14) (fun p15 T16 => ?_)
  refine wq_pop rfl (wq_notL (wm_zlt p15)) ?_
  refine wq_aload_n rfl rfl rfl ?_
  refine wq_bipush rfl rfl ?_
  obtain ⟨y17, e18, h⟩ := od_bindE h
  refine wd_virtN (q := 56) (y := y17) (as := [36893488147419103288, 59]) rfl rfl rfl (by decide) (Nat.le_of_ble_eq_true rfl) (Nat.le_of_ble_eq_true rfl) rfl (Nat.le_of_ble_eq_true rfl) rfl (dkT_110 T16 (by decide) e18) (fun T20 => ?_)
  refine wq_aload_n rfl rfl rfl ?_
  refine wq_iconst rfl rfl ?_
  refine wq_iload_n rfl rfl ha0 ?_
  refine wq_iconst rfl rfl ?_
  refine wq_iaddZ rfl ha0 (wm_zlt (by decide)) (z := (a0 + 1) % 4294967296) rfl ?_
  obtain ⟨y21, e22, h⟩ := od_bindE h
  refine wd_virtZ (q := 56) (y := y21) (as := [36893488147419103288, 0, (a0 + 1) % 4294967296]) rfl rfl rfl (by decide) (Nat.le_of_ble_eq_true rfl) (Nat.le_of_ble_eq_true rfl) rfl (Nat.le_of_ble_eq_true rfl) rfl (dk_s148 hR T20 (wm_zlt (by decide)) (Nat.mod_lt _ (by decide)) e22) (fun p23 T24 => ?_)
  refine wq_pop rfl (wq_notL (wm_zlt p23)) ?_
  refine wq_aload_n rfl rfl rfl ?_
  refine wq_bipush rfl rfl ?_
  obtain ⟨y25, e26, h⟩ := od_bindE h
  refine wd_virtZ (q := 56) (y := y25) (as := [36893488147419103288, 59]) rfl rfl rfl (by decide) (Nat.le_of_ble_eq_true rfl) (Nat.le_of_ble_eq_true rfl) rfl (Nat.le_of_ble_eq_true rfl) rfl (dkT_111 T24 (by decide) e26) (fun p27 T28 => ?_)
  refine wq_if_eq rfl rfl (wm_zlt p27) (fun h29 => ?_) (fun h29 => ?_)
  · replace h := od_pos h h29
    refine wq_aload_n rfl rfl rfl ?_
    refine wq_iconst rfl rfl ?_
    refine wq_aload_n rfl rfl rfl ?_
    refine xm_getR (v := 36893488147419103243) (q := 56) rfl rfl (by decide) (by decide) (T28.r (k := 56) 1 10 rfl (by decide) rfl) ?_
    refine wq_lconst rfl ?_
    obtain ⟨y30, e31, h⟩ := od_bindE h
    refine wd_virtI (q := 11) (y := y30) (as := [36893488147419103243, 18446744073709551617]) rfl rfl rfl (by decide) (Nat.le_of_ble_eq_true rfl) (Nat.le_of_ble_eq_true rfl) rfl (Nat.le_of_ble_eq_true rfl) rfl (dkT_157 T28 rfl e31) (fun p32 T33 => ?_)
    refine wq_iload_n rfl rfl ha1 ?_
    refine wq_iconst rfl rfl ?_
    obtain ⟨y34, e35, h⟩ := od_bindE h
    refine wd_virtN (q := 56) (y := y34) (as := [36893488147419103288, 3, y30.1, a1, 1]) rfl rfl rfl (by decide) (Nat.le_of_ble_eq_true rfl) (Nat.le_of_ble_eq_true rfl) rfl (Nat.le_of_ble_eq_true rfl) rfl (dkT_112 T33 (by decide) p32 ha1 (wm_zlt (by decide)) e35) (fun T37 => ?_)
    exact dk_127_82T hR T37 ha0 ha1 ha2 p3 p7 h
  · replace h := od_neg h h29
    refine wq_aload_n rfl rfl rfl ?_
    refine wq_iconst rfl rfl ?_
    refine wq_iload_n rfl rfl ha0 ?_
    refine wq_iconst rfl rfl ?_
    refine wq_iaddZ rfl ha0 (wm_zlt (by decide)) (z := (a0 + 1) % 4294967296) rfl ?_
    obtain ⟨y38, e39, h⟩ := od_bindE h
    refine wd_virtZ (q := 56) (y := y38) (as := [36893488147419103288, 0, (a0 + 1) % 4294967296]) rfl rfl rfl (by decide) (Nat.le_of_ble_eq_true rfl) (Nat.le_of_ble_eq_true rfl) rfl (Nat.le_of_ble_eq_true rfl) rfl (dk_s148 hR T28 (wm_zlt (by decide)) (Nat.mod_lt _ (by decide)) e39) (fun p40 T41 => ?_)
    refine wq_pop rfl (wq_notL (wm_zlt p40)) ?_
    refine wq_goto rfl rfl ?_
    exact dk_127_82T hR T41 ha0 ha1 ha2 p3 p7 h
def dk_128_80b (R : dk_Rt) (n : Nat) (r80 : wq_F → Nat → Nat → Nat → Nat → Nat → Nat → Nat → Nat → Option (Nat × wq_F)) (F : wq_F) (v1 : Nat) (v2 : Nat) (v3 : Nat) (v4 : Nat) (v5 : Nat) (v6 : Nat) (v7 : Nat) (v8 : Nat) : Option (Nat × wq_F) :=
  if ev_s v8 < ev_s 3 then
    (dk_78 F 5 ((v4 + v8) % 4294967296) 0 0).bind fun y49 =>
    od_let ((v8 + 1) % 4294967296) fun y53 =>
    r80 y49.2 v1 v2 v3 v4 v5 v6 v7 y53
  else
    (dk_78 F 19 ((v4 + 3) % 4294967296) v5 v6).bind fun y2 =>
    (dk_78 y2.2 34 v4 4294967295 0).bind fun y6 =>
    (dk_165 y6.2 y6.1).bind fun y10 =>
    (dk_110 n y10.2 12).bind fun y14 =>
    od_let ((((v4 + 3) % 4294967296) + v5) % 4294967296) fun y18 =>
    (dk_162 y14.2 y18).bind fun y21 =>
    (dk_167 n y21.2 v2 ((v4 + 3) % 4294967296)).bind fun y25 =>
    (R 80 [(v1 + 1) % 4294967296] y25.2).bind fun y29 =>
    (dk_110 n y29.2 15).bind fun y33 =>
    (dk_113 y33.2 ((v4 + 3) % 4294967296)).bind fun y37 =>
    (dk_78 y37.2 21 0 v7 0).bind fun y41 =>
    (dk_120 n y41.2 v4 v3).bind fun y45 =>
    some (0, y45.2)
theorem dk_128_80bT {d n : Nat} {R : dk_Rt} (hR : dk_spec (d + 12) R) {r80 : wq_F → Nat → Nat → Nat → Nat → Nat → Nat → Nat → Nat → Option (Nat × wq_F)} (hr80 : ∀ ⦃F : wq_F⦄ (hT : xm_T F) ⦃v1 : Nat⦄ (hv1 : v1 < 4294967296) ⦃v2 : Nat⦄ (hv2 : v2 < 4294967296) ⦃v3 : Nat⦄ (hv3 : v3 < 4294967296) ⦃v4 : Nat⦄ (hv4 : v4 < 4294967296) ⦃v5 : Nat⦄ (hv5 : v5 < 4294967296) ⦃v6 : Nat⦄ (hv6 : v6 < 4294967296) ⦃v7 : Nat⦄ (hv7 : v7 < 4294967296) ⦃v8 : Nat⦄ (hv8 : v8 < 4294967296) ⦃x : Nat × wq_F⦄ (h : r80 F v1 v2 v3 v4 v5 v6 v7 v8 = some x), wq (wq_cf (d + 12)) (ev_un al_mX4_rowFor.2.2.2.2) none 80 [36893488147419103288, v1, v2, v3, v4, v5, v6, v7, v8] [] xm_sh F 0 0 (wkN xm_T xm_sh x)) : ∀ ⦃F : wq_F⦄ (hT : xm_T F) ⦃v1 : Nat⦄ (hv1 : v1 < 4294967296) ⦃v2 : Nat⦄ (hv2 : v2 < 4294967296) ⦃v3 : Nat⦄ (hv3 : v3 < 4294967296) ⦃v4 : Nat⦄ (hv4 : v4 < 4294967296) ⦃v5 : Nat⦄ (hv5 : v5 < 4294967296) ⦃v6 : Nat⦄ (hv6 : v6 < 4294967296) ⦃v7 : Nat⦄ (hv7 : v7 < 4294967296) ⦃v8 : Nat⦄ (hv8 : v8 < 4294967296) ⦃x : Nat × wq_F⦄ (h : dk_128_80b R n r80 F v1 v2 v3 v4 v5 v6 v7 v8 = some x), wq (wq_cf (d + 12)) (ev_un al_mX4_rowFor.2.2.2.2) none 80 [36893488147419103288, v1, v2, v3, v4, v5, v6, v7, v8] [] xm_sh F 0 0 (wkN xm_T xm_sh x) := by
  intro F hT v1 hv1 v2 hv2 v3 hv3 v4 hv4 v5 hv5 v6 hv6 v7 hv7 v8 hv8 x h
  unfold dk_128_80b at h
  refine wq_iload rfl rfl hv8 ?_
  refine wq_iconst rfl rfl ?_
  refine wq_ic_ge rfl rfl hv8 (by decide) (fun h1 => ?_) (fun h1 => ?_)
  · replace h := od_neg h (Nat.not_lt.mpr h1)
    refine wq_aload_n rfl rfl rfl ?_
    refine wq_bipush rfl rfl ?_
    refine wq_iload rfl rfl hv4 ?_
    refine wq_iconst rfl rfl ?_
    refine wq_iaddZ rfl hv4 (by decide) (z := (v4 + 3) % 4294967296) rfl ?_
    refine wq_iload rfl rfl hv5 ?_
    refine wq_iload rfl rfl hv6 ?_
    obtain ⟨y2, e3, h⟩ := od_bindE h
    refine wd_virtI (q := 56) (y := y2) (as := [36893488147419103288, 19, (v4 + 3) % 4294967296, v5, v6]) rfl rfl rfl (by decide) (Nat.le_of_ble_eq_true rfl) (Nat.le_of_ble_eq_true rfl) rfl (Nat.le_of_ble_eq_true rfl) rfl (dkT_78 hT (by decide) (Nat.mod_lt _ (by decide)) hv5 hv6 e3) (fun p4 T5 => ?_)
    refine wq_pop rfl (wq_notL p4) ?_
    refine wq_aload_n rfl rfl rfl ?_
    refine xm_getR (v := 36893488147419103291) (q := 56) rfl rfl (by decide) (by decide) (T5.r (k := 56) 3 58 rfl (by decide) rfl) ?_
    refine wq_aload_n rfl rfl rfl ?_
    refine wq_bipush rfl rfl ?_
    refine wq_iload rfl rfl hv4 ?_
    refine wq_iconst rfl rfl ?_
    refine wq_iconst rfl rfl ?_
    obtain ⟨y6, e7, h⟩ := od_bindE h
    refine wd_virtI (q := 56) (y := y6) (as := [36893488147419103288, 34, v4, 4294967295, 0]) rfl rfl rfl (by decide) (Nat.le_of_ble_eq_true rfl) (Nat.le_of_ble_eq_true rfl) rfl (Nat.le_of_ble_eq_true rfl) rfl (dkT_78 T5 (by decide) hv4 (by decide) (wm_zlt (by decide)) e7) (fun p8 T9 => ?_)
    obtain ⟨y10, e11, h⟩ := od_bindE h
    refine wd_virtN (q := 59) (y := y10) (as := [36893488147419103291, y6.1]) rfl rfl rfl (by decide) (Nat.le_of_ble_eq_true rfl) (Nat.le_of_ble_eq_true rfl) rfl (Nat.le_of_ble_eq_true rfl) rfl (dkT_165 T9 p8 e11) (fun T13 => ?_)
    refine wq_aload_n rfl rfl rfl ?_
    refine wq_bipush rfl rfl ?_
    obtain ⟨y14, e15, h⟩ := od_bindE h
    refine wd_virtN (q := 56) (y := y14) (as := [36893488147419103288, 12]) rfl rfl rfl (by decide) (Nat.le_of_ble_eq_true rfl) (Nat.le_of_ble_eq_true rfl) rfl (Nat.le_of_ble_eq_true rfl) rfl (dkT_110 T13 (by decide) e15) (fun T17 => ?_)
    refine wq_aload_n rfl rfl rfl ?_
    refine xm_getR (v := 36893488147419103291) (q := 56) rfl rfl (by decide) (by decide) (T17.r (k := 56) 3 58 rfl (by decide) rfl) ?_
    refine wq_iload rfl rfl hv4 ?_
    refine wq_iconst rfl rfl ?_
    refine wq_iaddZ rfl hv4 (by decide) (z := (v4 + 3) % 4294967296) rfl ?_
    refine wq_iload rfl rfl hv5 ?_
    refine wq_iaddZ rfl (Nat.mod_lt _ (by decide)) hv5 (z := (((v4 + 3) % 4294967296) + v5) % 4294967296) rfl ?_
    obtain ⟨y18, e19, h⟩ := od_letE h
    refine wq_top e19.symm ?_
    have p20 : y18 < 4294967296 := wd_lt e19 (Nat.mod_lt _ (by decide))
    obtain ⟨y21, e22, h⟩ := od_bindE h
    refine wd_virtN (q := 59) (y := y21) (as := [36893488147419103291, y18]) rfl rfl rfl (by decide) (Nat.le_of_ble_eq_true rfl) (Nat.le_of_ble_eq_true rfl) rfl (Nat.le_of_ble_eq_true rfl) rfl (dkT_162 T17 p20 e22) (fun T24 => ?_)
    refine wq_aload_n rfl rfl rfl ?_
    refine xm_getR (v := 36893488147419103291) (q := 56) rfl rfl (by decide) (by decide) (T24.r (k := 56) 3 58 rfl (by decide) rfl) ?_
    refine wq_iload_n rfl rfl hv2 ?_
    refine wq_iload rfl rfl hv4 ?_
    refine wq_iconst rfl rfl ?_
    refine wq_iaddZ rfl hv4 (by decide) (z := (v4 + 3) % 4294967296) rfl ?_
    obtain ⟨y25, e26, h⟩ := od_bindE h
    refine wd_virtN (q := 59) (y := y25) (as := [36893488147419103291, v2, (v4 + 3) % 4294967296]) rfl rfl rfl (by decide) (Nat.le_of_ble_eq_true rfl) (Nat.le_of_ble_eq_true rfl) rfl (Nat.le_of_ble_eq_true rfl) rfl (dkT_167 T24 hv2 (Nat.mod_lt _ (by decide)) e26) (fun T28 => ?_)
    refine wq_aload_n rfl rfl rfl ?_
    refine wq_iload_n rfl rfl hv1 ?_
    refine wq_iconst rfl rfl ?_
    refine wq_iaddZ rfl hv1 (wm_zlt (by decide)) (z := (v1 + 1) % 4294967296) rfl ?_
    obtain ⟨y29, e30, h⟩ := od_bindE h
    refine wd_virtN (q := 56) (y := y29) (as := [36893488147419103288, (v1 + 1) % 4294967296]) rfl rfl rfl (by decide) (Nat.le_of_ble_eq_true rfl) (Nat.le_of_ble_eq_true rfl) rfl (Nat.le_of_ble_eq_true rfl) rfl (dk_s80 hR T28 (Nat.mod_lt _ (by decide)) e30) (fun T32 => ?_)
    refine wq_aload_n rfl rfl rfl ?_
    refine wq_bipush rfl rfl ?_
    obtain ⟨y33, e34, h⟩ := od_bindE h
    refine wd_virtN (q := 56) (y := y33) (as := [36893488147419103288, 15]) rfl rfl rfl (by decide) (Nat.le_of_ble_eq_true rfl) (Nat.le_of_ble_eq_true rfl) rfl (Nat.le_of_ble_eq_true rfl) rfl (dkT_110 T32 (by decide) e34) (fun T36 => ?_)
    refine wq_aload_n rfl rfl rfl ?_
    refine wq_iload rfl rfl hv4 ?_
    refine wq_iconst rfl rfl ?_
    refine wq_iaddZ rfl hv4 (by decide) (z := (v4 + 3) % 4294967296) rfl ?_
    obtain ⟨y37, e38, h⟩ := od_bindE h
    refine wd_virtN (q := 56) (y := y37) (as := [36893488147419103288, (v4 + 3) % 4294967296]) rfl rfl rfl (by decide) (Nat.le_of_ble_eq_true rfl) (Nat.le_of_ble_eq_true rfl) rfl (Nat.le_of_ble_eq_true rfl) rfl (dkT_113 T36 (Nat.mod_lt _ (by decide)) e38) (fun T40 => ?_)
    refine wq_aload_n rfl rfl rfl ?_
    refine wq_bipush rfl rfl ?_
    refine wq_iconst rfl rfl ?_
    refine wq_iload rfl rfl hv7 ?_
    refine wq_iconst rfl rfl ?_
    obtain ⟨y41, e42, h⟩ := od_bindE h
    refine wd_virtI (q := 56) (y := y41) (as := [36893488147419103288, 21, 0, v7, 0]) rfl rfl rfl (by decide) (Nat.le_of_ble_eq_true rfl) (Nat.le_of_ble_eq_true rfl) rfl (Nat.le_of_ble_eq_true rfl) rfl (dkT_78 T40 (by decide) (wm_zlt (by decide)) hv7 (wm_zlt (by decide)) e42) (fun p43 T44 => ?_)
    refine wq_pop rfl (wq_notL p43) ?_
    refine wq_aload_n rfl rfl rfl ?_
    refine wq_iload rfl rfl hv4 ?_
    refine wq_iload_n rfl rfl hv3 ?_
    obtain ⟨y45, e46, h⟩ := od_bindE h
    refine wd_virtN (q := 56) (y := y45) (as := [36893488147419103288, v4, v3]) rfl rfl rfl (by decide) (Nat.le_of_ble_eq_true rfl) (Nat.le_of_ble_eq_true rfl) rfl (Nat.le_of_ble_eq_true rfl) rfl (dkT_120 T44 hv4 hv3 e46) (fun T48 => ?_)
    exact wq_ret rfl (wkON h T48)
  · replace h := od_pos h h1
    refine wq_aload_n rfl rfl rfl ?_
    refine wq_iconst rfl rfl ?_
    refine wq_iload rfl rfl hv4 ?_
    refine wq_iload rfl rfl hv8 ?_
    refine wq_iaddZ rfl hv4 hv8 (z := (v4 + v8) % 4294967296) rfl ?_
    refine wq_iconst rfl rfl ?_
    refine wq_iconst rfl rfl ?_
    obtain ⟨y49, e50, h⟩ := od_bindE h
    refine wd_virtI (q := 56) (y := y49) (as := [36893488147419103288, 5, (v4 + v8) % 4294967296, 0, 0]) rfl rfl rfl (by decide) (Nat.le_of_ble_eq_true rfl) (Nat.le_of_ble_eq_true rfl) rfl (Nat.le_of_ble_eq_true rfl) rfl (dkT_78 hT (by decide) (Nat.mod_lt _ (by decide)) (wm_zlt (by decide)) (wm_zlt (by decide)) e50) (fun p51 T52 => ?_)
    refine wq_pop rfl (wq_notL p51) ?_
    obtain ⟨y53, e54, h⟩ := od_letE h
    have p55 : y53 < 4294967296 := wd_lt e54 (Nat.mod_lt _ (by decide))
    refine wq_iincZ rfl rfl hv8 (Or.inr ⟨_, rfl, (wq_notL hv7)⟩) rfl (z := y53) e54.symm (L' := [36893488147419103288, v1, v2, v3, v4, v5, v6, v7, y53]) rfl ?_
    refine wq_goto rfl rfl ?_
    exact hr80 T52 hv1 hv2 hv3 hv4 hv5 hv6 hv7 p55 h
def dk_128_80 (R : dk_Rt) (n : Nat) : Nat → wq_F → Nat → Nat → Nat → Nat → Nat → Nat → Nat → Nat → Option (Nat × wq_F)
  | 0 => fun _ _ _ _ _ _ _ _ _ => none
  | g + 1 => dk_128_80b R n (dk_128_80 R n g)
theorem dk_128_80T {d n : Nat} {R : dk_Rt} (hR : dk_spec (d + 12) R) : ∀ g : Nat, ∀ ⦃F : wq_F⦄ (hT : xm_T F) ⦃v1 : Nat⦄ (hv1 : v1 < 4294967296) ⦃v2 : Nat⦄ (hv2 : v2 < 4294967296) ⦃v3 : Nat⦄ (hv3 : v3 < 4294967296) ⦃v4 : Nat⦄ (hv4 : v4 < 4294967296) ⦃v5 : Nat⦄ (hv5 : v5 < 4294967296) ⦃v6 : Nat⦄ (hv6 : v6 < 4294967296) ⦃v7 : Nat⦄ (hv7 : v7 < 4294967296) ⦃v8 : Nat⦄ (hv8 : v8 < 4294967296) ⦃x : Nat × wq_F⦄ (h : dk_128_80 R n g F v1 v2 v3 v4 v5 v6 v7 v8 = some x), wq (wq_cf (d + 12)) (ev_un al_mX4_rowFor.2.2.2.2) none 80 [36893488147419103288, v1, v2, v3, v4, v5, v6, v7, v8] [] xm_sh F 0 0 (wkN xm_T xm_sh x)
  | 0 => by
    intro F hT v1 hv1 v2 hv2 v3 hv3 v4 hv4 v5 hv5 v6 hv6 v7 hv7 v8 hv8 x h
    cases h
  | g + 1 => dk_128_80bT hR (dk_128_80T hR g)
/-- X4_rowFor -/
def dk_128 (R : dk_Rt) (n : Nat) (F : wq_F) (a0 : Nat) (a1 : Nat) : Option (Nat × wq_F) :=
  (dk_164 F).bind fun y1 =>
  (dk_84 y1.2).bind fun y5 =>
  od_let (((y5.2 59 3) + (4294967296 - a1)) % 4294967296) fun y9 =>
  (dk_110 n y5.2 20).bind fun y12 =>
  (R 144 [(a0 + 1) % 4294967296] y12.2).bind fun y16 =>
  (dk_129 y16.2 y16.1 y5.1 3 (y5.2 57 6)).bind fun y20 =>
  (dk_78 y20.2 0 0 0 0).bind fun y24 =>
  dk_128_80 R n n y24.2 a0 a1 y1.1 y5.1 y9 (y5.2 57 6) (y20.2 11 4) 0
theorem dkT_128 {d n : Nat} {R : dk_Rt} (hR : dk_spec (d + 12) R) {F : wq_F} (hT : xm_T F) {a0 : Nat} (ha0 : a0 < 4294967296) {a1 : Nat} (ha1 : a1 < 4294967296) {x : Nat × wq_F} (h : dk_128 R n F a0 a1 = some x) : mq (d + 12 + 1) 128 [36893488147419103288, a0, a1] xm_sh F (wkN xm_T xm_sh x) := by
  have e : ev_ent [36893488147419103288, a0, a1] = [36893488147419103288, a0, a1] := by
    show 36893488147419103288 :: ev_ent [a0, a1] = _
    rw [wm_entI ha0, wm_entI ha1]
    rfl
  refine mq_of (maxL := 9) (rt := none) (code := (ev_un al_mX4_rowFor.2.2.2.2)) (L := [36893488147419103288, a0, a1, 73786976294838206464, 73786976294838206464, 73786976294838206464, 73786976294838206464, 73786976294838206464, 73786976294838206464]) rfl (by rw [e]; exact Nat.le_of_ble_eq_true rfl) (by rw [e]; rfl) ?_
  unfold dk_128 at h
  refine wq_aload_n rfl rfl rfl ?_
  refine xm_getR (v := 36893488147419103291) (q := 56) rfl rfl (by decide) (by decide) (hT.r (k := 56) 3 58 rfl (by decide) rfl) ?_
  obtain ⟨y1, e2, h⟩ := od_bindE h
  refine wd_virtI (q := 59) (y := y1) (as := [36893488147419103291]) rfl rfl rfl (by decide) (Nat.le_of_ble_eq_true rfl) (Nat.le_of_ble_eq_true rfl) rfl (Nat.le_of_ble_eq_true rfl) rfl (dkT_164 hT e2) (fun p3 T4 => ?_)
  refine wq_istore_n rfl p3 (Nat.le_of_ble_eq_true rfl) (Or.inr ⟨_, rfl, (wq_notL ha1)⟩) (L' := [36893488147419103288, a0, a1, y1.1, 73786976294838206464, 73786976294838206464, 73786976294838206464, 73786976294838206464, 73786976294838206464]) rfl ?_
  refine wq_aload_n rfl rfl rfl ?_
  refine xm_getR (v := 36893488147419103291) (q := 56) rfl rfl (by decide) (by decide) (T4.r (k := 56) 3 58 rfl (by decide) rfl) ?_
  obtain ⟨y5, e6, h⟩ := od_bindE h
  refine wd_virtI (q := 59) (y := y5) (as := [36893488147419103291]) rfl rfl rfl (by decide) (Nat.le_of_ble_eq_true rfl) (Nat.le_of_ble_eq_true rfl) rfl (Nat.le_of_ble_eq_true rfl) rfl (dkT_84 T4 e6) (fun p7 T8 => ?_)
  refine wq_istore rfl p7 (Nat.le_of_ble_eq_true rfl) (Or.inr ⟨_, rfl, (wq_notL p3)⟩) (L' := [36893488147419103288, a0, a1, y1.1, y5.1, 73786976294838206464, 73786976294838206464, 73786976294838206464, 73786976294838206464]) rfl ?_
  refine wq_aload_n rfl rfl rfl ?_
  refine xm_getR (v := 36893488147419103291) (q := 56) rfl rfl (by decide) (by decide) (T8.r (k := 56) 3 58 rfl (by decide) rfl) ?_
  refine xm_getI (q := 59) rfl rfl (by decide) (by decide) ?_
  refine wq_iload_n rfl rfl ha1 ?_
  refine wq_isubZ rfl (T8.i (k := 59) 3 rfl (by decide) rfl) ha1 (z := ((y5.2 59 3) + (4294967296 - a1)) % 4294967296) rfl ?_
  obtain ⟨y9, e10, h⟩ := od_letE h
  refine wq_top e10.symm ?_
  have p11 : y9 < 4294967296 := wd_lt e10 (Nat.mod_lt _ (by decide))
  refine wq_istore rfl p11 (Nat.le_of_ble_eq_true rfl) (Or.inr ⟨_, rfl, (wq_notL p7)⟩) (L' := [36893488147419103288, a0, a1, y1.1, y5.1, y9, 73786976294838206464, 73786976294838206464, 73786976294838206464]) rfl ?_
  refine wq_aload_n rfl rfl rfl ?_
  refine xm_getR (v := 36893488147419103289) (q := 56) rfl rfl (by decide) (by decide) (T8.r (k := 56) 0 56 rfl (by decide) rfl) ?_
  refine xm_getI (q := 57) rfl rfl (by decide) (by decide) ?_
  refine wq_istore rfl (T8.i (k := 57) 6 rfl (by decide) rfl) (Nat.le_of_ble_eq_true rfl) (Or.inr ⟨_, rfl, (wq_notL p11)⟩) (L' := [36893488147419103288, a0, a1, y1.1, y5.1, y9, y5.2 57 6, 73786976294838206464, 73786976294838206464]) rfl ?_
  refine wq_aload_n rfl rfl rfl ?_
  refine wq_bipush rfl rfl ?_
  obtain ⟨y12, e13, h⟩ := od_bindE h
  refine wd_virtN (q := 56) (y := y12) (as := [36893488147419103288, 20]) rfl rfl rfl (by decide) (Nat.le_of_ble_eq_true rfl) (Nat.le_of_ble_eq_true rfl) rfl (Nat.le_of_ble_eq_true rfl) rfl (dkT_110 T8 (by decide) e13) (fun T15 => ?_)
  refine wq_aload_n rfl rfl rfl ?_
  refine wq_aload_n rfl rfl rfl ?_
  refine wq_iload_n rfl rfl ha0 ?_
  refine wq_iconst rfl rfl ?_
  refine wq_iaddZ rfl ha0 (wm_zlt (by decide)) (z := (a0 + 1) % 4294967296) rfl ?_
  obtain ⟨y16, e17, h⟩ := od_bindE h
  refine wd_virtI (q := 56) (y := y16) (as := [36893488147419103288, (a0 + 1) % 4294967296]) rfl rfl rfl (by decide) (Nat.le_of_ble_eq_true rfl) (Nat.le_of_ble_eq_true rfl) rfl (Nat.le_of_ble_eq_true rfl) rfl (dk_s144 hR T15 (Nat.mod_lt _ (by decide)) e17) (fun p18 T19 => ?_)
  refine wq_iload rfl rfl p7 ?_
  refine wq_iconst rfl rfl ?_
  refine wq_iload rfl rfl (T8.i (k := 57) 6 rfl (by decide) rfl) ?_
  obtain ⟨y20, e21, h⟩ := od_bindE h
  refine wd_virtN (q := 56) (y := y20) (as := [36893488147419103288, y16.1, y5.1, 3, y5.2 57 6]) rfl rfl rfl (by decide) (Nat.le_of_ble_eq_true rfl) (Nat.le_of_ble_eq_true rfl) rfl (Nat.le_of_ble_eq_true rfl) rfl (dkT_129 T19 p18 p7 (by decide) (T8.i (k := 57) 6 rfl (by decide) rfl) e21) (fun T23 => ?_)
  refine wq_aload_n rfl rfl rfl ?_
  refine xm_getR (v := 36893488147419103243) (q := 56) rfl rfl (by decide) (by decide) (T23.r (k := 56) 1 10 rfl (by decide) rfl) ?_
  refine xm_getI (q := 11) rfl rfl (by decide) (by decide) ?_
  refine wq_istore rfl (T23.i (k := 11) 4 rfl (by decide) rfl) (Nat.le_of_ble_eq_true rfl) (Or.inr ⟨_, rfl, (wq_notL (T8.i (k := 57) 6 rfl (by decide) rfl))⟩) (L' := [36893488147419103288, a0, a1, y1.1, y5.1, y9, y5.2 57 6, y20.2 11 4, 73786976294838206464]) rfl ?_
  refine wq_aload_n rfl rfl rfl ?_
  refine wq_iconst rfl rfl ?_
  refine wq_iconst rfl rfl ?_
  refine wq_iconst rfl rfl ?_
  refine wq_iconst rfl rfl ?_
  obtain ⟨y24, e25, h⟩ := od_bindE h
  refine wd_virtI (q := 56) (y := y24) (as := [36893488147419103288, 0, 0, 0, 0]) rfl rfl rfl (by decide) (Nat.le_of_ble_eq_true rfl) (Nat.le_of_ble_eq_true rfl) rfl (Nat.le_of_ble_eq_true rfl) rfl (dkT_78 T23 (wm_zlt (by decide)) (wm_zlt (by decide)) (wm_zlt (by decide)) (wm_zlt (by decide)) e25) (fun p26 T27 => ?_)
  refine wq_pop rfl (wq_notL p26) ?_
  refine wq_iconst rfl rfl ?_
  refine wq_istore rfl (wm_zlt (by decide)) (Nat.le_of_ble_eq_true rfl) (Or.inr ⟨_, rfl, (wq_notL (T23.i (k := 11) 4 rfl (by decide) rfl))⟩) (L' := [36893488147419103288, a0, a1, y1.1, y5.1, y9, y5.2 57 6, y20.2 11 4, 0]) rfl ?_
  exact dk_128_80T hR n T27 ha0 ha1 p3 p7 p11 (T8.i (k := 57) 6 rfl (by decide) rfl) (T23.i (k := 11) 4 rfl (by decide) rfl) (wm_zlt (by decide)) h
/-- X4_localStatement -/
def dk_130 (R : dk_Rt) (n : Nat) (F : wq_F) (a0 : Nat) : Option (Nat × wq_F) :=
  (dk_84 F).bind fun y1 =>
  (dk_77 n y1.2).bind fun y5 =>
  (dk_111 n y5.2 18).bind fun y9 =>
  if y9.1 = 0 then
    (dk_124 y9.2).bind fun y14 =>
    (dk_77 n y14.2).bind fun y18 =>
    (dk_125 n y18.2).bind fun y22 =>
    od_let (((y22.2 59 3) + (4294967296 - (F 59 3))) % 4294967296) fun y26 =>
    (dk_111 n y22.2 49).bind fun y29 =>
    if y29.1 = 0 then
      (dk_112 y29.2 1 y26 0 y26).bind fun y34 =>
      (dk_167 n y34.2 (F 59 3) y1.1).bind fun y38 =>
      some (0, y38.2)
    else
      (R 144 [(a0 + 1) % 4294967296] y29.2).bind fun y42 =>
      (dk_129 y42.2 y42.1 y1.1 y26 (y22.2 57 6)).bind fun y46 =>
      (dk_167 n y46.2 (F 59 3) y1.1).bind fun y50 =>
      some (0, y50.2)
  else
    (dk_124 y9.2).bind fun y54 =>
    (dk_77 n y54.2).bind fun y58 =>
    (dk_112 y58.2 1 1 0 1).bind fun y62 =>
    (dk_167 n y62.2 (F 59 3) y1.1).bind fun y66 =>
    (R 155 [a0, 0] y66.2).bind fun y70 =>
    (dk_112 y70.2 6 y1.1 0 4294967295).bind fun y74 =>
    some (0, y74.2)
theorem dkT_130 {d n : Nat} {R : dk_Rt} (hR : dk_spec (d + 12) R) {F : wq_F} (hT : xm_T F) {a0 : Nat} (ha0 : a0 < 4294967296) {x : Nat × wq_F} (h : dk_130 R n F a0 = some x) : mq (d + 12 + 1) 130 [36893488147419103288, a0] xm_sh F (wkN xm_T xm_sh x) := by
  have e : ev_ent [36893488147419103288, a0] = [36893488147419103288, a0] := by
    show 36893488147419103288 :: ev_ent [a0] = _
    rw [wm_entI ha0]
    rfl
  refine mq_of (maxL := 6) (rt := none) (code := (ev_un al_mX4_localStatement.2.2.2.2)) (L := [36893488147419103288, a0, 73786976294838206464, 73786976294838206464, 73786976294838206464, 73786976294838206464]) rfl (by rw [e]; exact Nat.le_of_ble_eq_true rfl) (by rw [e]; rfl) ?_
  unfold dk_130 at h
  refine wq_aload_n rfl rfl rfl ?_
  refine xm_getR (v := 36893488147419103291) (q := 56) rfl rfl (by decide) (by decide) (hT.r (k := 56) 3 58 rfl (by decide) rfl) ?_
  refine xm_getI (q := 59) rfl rfl (by decide) (by decide) ?_
  refine wq_istore_n rfl (hT.i (k := 59) 3 rfl (by decide) rfl) (Nat.le_of_ble_eq_true rfl) (Or.inr ⟨_, rfl, (wq_notL ha0)⟩) (L' := [36893488147419103288, a0, F 59 3, 73786976294838206464, 73786976294838206464, 73786976294838206464]) rfl ?_
  refine wq_aload_n rfl rfl rfl ?_
  refine xm_getR (v := 36893488147419103291) (q := 56) rfl rfl (by decide) (by decide) (hT.r (k := 56) 3 58 rfl (by decide) rfl) ?_
  obtain ⟨y1, e2, h⟩ := od_bindE h
  refine wd_virtI (q := 59) (y := y1) (as := [36893488147419103291]) rfl rfl rfl (by decide) (Nat.le_of_ble_eq_true rfl) (Nat.le_of_ble_eq_true rfl) rfl (Nat.le_of_ble_eq_true rfl) rfl (dkT_84 hT e2) (fun p3 T4 => ?_)
  refine wq_istore_n rfl p3 (Nat.le_of_ble_eq_true rfl) (Or.inr ⟨_, rfl, (wq_notL (hT.i (k := 59) 3 rfl (by decide) rfl))⟩) (L' := [36893488147419103288, a0, F 59 3, y1.1, 73786976294838206464, 73786976294838206464]) rfl ?_
  refine wq_aload_n rfl rfl rfl ?_
  obtain ⟨y5, e6, h⟩ := od_bindE h
  refine wd_virtN (q := 56) (y := y5) (as := [36893488147419103288]) rfl rfl rfl (by decide) (Nat.le_of_ble_eq_true rfl) (Nat.le_of_ble_eq_true rfl) rfl (Nat.le_of_ble_eq_true rfl) rfl (dkT_77 T4 e6) (fun T8 => ?_)
  refine wq_aload_n rfl rfl rfl ?_
  refine wq_bipush rfl rfl ?_
  obtain ⟨y9, e10, h⟩ := od_bindE h
  refine wd_virtZ (q := 56) (y := y9) (as := [36893488147419103288, 18]) rfl rfl rfl (by decide) (Nat.le_of_ble_eq_true rfl) (Nat.le_of_ble_eq_true rfl) rfl (Nat.le_of_ble_eq_true rfl) rfl (dkT_111 T8 (by decide) e10) (fun p11 T12 => ?_)
  refine wq_if_eq rfl rfl (wm_zlt p11) (fun h13 => ?_) (fun h13 => ?_)
  · replace h := od_pos h h13
    refine wq_aload_n rfl rfl rfl ?_
    obtain ⟨y14, e15, h⟩ := od_bindE h
    refine wd_virtN (q := 56) (y := y14) (as := [36893488147419103288]) rfl rfl rfl (by decide) (Nat.le_of_ble_eq_true rfl) (Nat.le_of_ble_eq_true rfl) rfl (Nat.le_of_ble_eq_true rfl) rfl (dkT_124 T12 e15) (fun T17 => ?_)
    refine wq_aload_n rfl rfl rfl ?_
    obtain ⟨y18, e19, h⟩ := od_bindE h
    refine wd_virtN (q := 56) (y := y18) (as := [36893488147419103288]) rfl rfl rfl (by decide) (Nat.le_of_ble_eq_true rfl) (Nat.le_of_ble_eq_true rfl) rfl (Nat.le_of_ble_eq_true rfl) rfl (dkT_77 T17 e19) (fun T21 => ?_)
    refine wq_aload_n rfl rfl rfl ?_
    obtain ⟨y22, e23, h⟩ := od_bindE h
    refine wd_virtN (q := 56) (y := y22) (as := [36893488147419103288]) rfl rfl rfl (by decide) (Nat.le_of_ble_eq_true rfl) (Nat.le_of_ble_eq_true rfl) rfl (Nat.le_of_ble_eq_true rfl) rfl (dkT_125 T21 e23) (fun T25 => ?_)
    refine wq_aload_n rfl rfl rfl ?_
    refine xm_getR (v := 36893488147419103291) (q := 56) rfl rfl (by decide) (by decide) (T25.r (k := 56) 3 58 rfl (by decide) rfl) ?_
    refine xm_getI (q := 59) rfl rfl (by decide) (by decide) ?_
    refine wq_iload_n rfl rfl (hT.i (k := 59) 3 rfl (by decide) rfl) ?_
    refine wq_isubZ rfl (T25.i (k := 59) 3 rfl (by decide) rfl) (hT.i (k := 59) 3 rfl (by decide) rfl) (z := ((y22.2 59 3) + (4294967296 - (F 59 3))) % 4294967296) rfl ?_
    obtain ⟨y26, e27, h⟩ := od_letE h
    refine wq_top e27.symm ?_
    have p28 : y26 < 4294967296 := wd_lt e27 (Nat.mod_lt _ (by decide))
    refine wq_istore rfl p28 (Nat.le_of_ble_eq_true rfl) (Or.inr ⟨_, rfl, (wq_notL p3)⟩) (L' := [36893488147419103288, a0, F 59 3, y1.1, y26, 73786976294838206464]) rfl ?_
    refine wq_aload_n rfl rfl rfl ?_
    refine xm_getR (v := 36893488147419103289) (q := 56) rfl rfl (by decide) (by decide) (T25.r (k := 56) 0 56 rfl (by decide) rfl) ?_
    refine xm_getI (q := 57) rfl rfl (by decide) (by decide) ?_
    refine wq_istore rfl (T25.i (k := 57) 6 rfl (by decide) rfl) (Nat.le_of_ble_eq_true rfl) (Or.inr ⟨_, rfl, (wq_notL p28)⟩) (L' := [36893488147419103288, a0, F 59 3, y1.1, y26, y22.2 57 6]) rfl ?_
    refine wq_aload_n rfl rfl rfl ?_
    refine wq_bipush rfl rfl ?_
    obtain ⟨y29, e30, h⟩ := od_bindE h
    refine wd_virtZ (q := 56) (y := y29) (as := [36893488147419103288, 49]) rfl rfl rfl (by decide) (Nat.le_of_ble_eq_true rfl) (Nat.le_of_ble_eq_true rfl) rfl (Nat.le_of_ble_eq_true rfl) rfl (dkT_111 T25 (by decide) e30) (fun p31 T32 => ?_)
    refine wq_if_eq rfl rfl (wm_zlt p31) (fun h33 => ?_) (fun h33 => ?_)
    · replace h := od_pos h h33
      refine wq_aload_n rfl rfl rfl ?_
      refine wq_iconst rfl rfl ?_
      refine wq_iload rfl rfl p28 ?_
      refine wq_iconst rfl rfl ?_
      refine wq_iload rfl rfl p28 ?_
      obtain ⟨y34, e35, h⟩ := od_bindE h
      refine wd_virtN (q := 56) (y := y34) (as := [36893488147419103288, 1, y26, 0, y26]) rfl rfl rfl (by decide) (Nat.le_of_ble_eq_true rfl) (Nat.le_of_ble_eq_true rfl) rfl (Nat.le_of_ble_eq_true rfl) rfl (dkT_112 T32 (wm_zlt (by decide)) p28 (wm_zlt (by decide)) p28 e35) (fun T37 => ?_)
      refine wq_aload_n rfl rfl rfl ?_
      refine xm_getR (v := 36893488147419103291) (q := 56) rfl rfl (by decide) (by decide) (T37.r (k := 56) 3 58 rfl (by decide) rfl) ?_
      refine wq_iload_n rfl rfl (hT.i (k := 59) 3 rfl (by decide) rfl) ?_
      refine wq_iload_n rfl rfl p3 ?_
      obtain ⟨y38, e39, h⟩ := od_bindE h
      refine wd_virtN (q := 59) (y := y38) (as := [36893488147419103291, F 59 3, y1.1]) rfl rfl rfl (by decide) (Nat.le_of_ble_eq_true rfl) (Nat.le_of_ble_eq_true rfl) rfl (Nat.le_of_ble_eq_true rfl) rfl (dkT_167 T37 (hT.i (k := 59) 3 rfl (by decide) rfl) p3 e39) (fun T41 => ?_)
      exact wq_ret rfl (wkON h T41)
    · replace h := od_neg h h33
      refine wq_aload_n rfl rfl rfl ?_
      refine wq_aload_n rfl rfl rfl ?_
      refine wq_iload_n rfl rfl ha0 ?_
      refine wq_iconst rfl rfl ?_
      refine wq_iaddZ rfl ha0 (wm_zlt (by decide)) (z := (a0 + 1) % 4294967296) rfl ?_
      obtain ⟨y42, e43, h⟩ := od_bindE h
      refine wd_virtI (q := 56) (y := y42) (as := [36893488147419103288, (a0 + 1) % 4294967296]) rfl rfl rfl (by decide) (Nat.le_of_ble_eq_true rfl) (Nat.le_of_ble_eq_true rfl) rfl (Nat.le_of_ble_eq_true rfl) rfl (dk_s144 hR T32 (Nat.mod_lt _ (by decide)) e43) (fun p44 T45 => ?_)
      refine wq_iload_n rfl rfl p3 ?_
      refine wq_iload rfl rfl p28 ?_
      refine wq_iload rfl rfl (T25.i (k := 57) 6 rfl (by decide) rfl) ?_
      obtain ⟨y46, e47, h⟩ := od_bindE h
      refine wd_virtN (q := 56) (y := y46) (as := [36893488147419103288, y42.1, y1.1, y26, y22.2 57 6]) rfl rfl rfl (by decide) (Nat.le_of_ble_eq_true rfl) (Nat.le_of_ble_eq_true rfl) rfl (Nat.le_of_ble_eq_true rfl) rfl (dkT_129 T45 p44 p3 p28 (T25.i (k := 57) 6 rfl (by decide) rfl) e47) (fun T49 => ?_)
      refine wq_goto rfl rfl ?_
      refine wq_aload_n rfl rfl rfl ?_
      refine xm_getR (v := 36893488147419103291) (q := 56) rfl rfl (by decide) (by decide) (T49.r (k := 56) 3 58 rfl (by decide) rfl) ?_
      refine wq_iload_n rfl rfl (hT.i (k := 59) 3 rfl (by decide) rfl) ?_
      refine wq_iload_n rfl rfl p3 ?_
      obtain ⟨y50, e51, h⟩ := od_bindE h
      refine wd_virtN (q := 59) (y := y50) (as := [36893488147419103291, F 59 3, y1.1]) rfl rfl rfl (by decide) (Nat.le_of_ble_eq_true rfl) (Nat.le_of_ble_eq_true rfl) rfl (Nat.le_of_ble_eq_true rfl) rfl (dkT_167 T49 (hT.i (k := 59) 3 rfl (by decide) rfl) p3 e51) (fun T53 => ?_)
      exact wq_ret rfl (wkON h T53)
  · replace h := od_neg h h13
    refine wq_aload_n rfl rfl rfl ?_
    obtain ⟨y54, e55, h⟩ := od_bindE h
    refine wd_virtN (q := 56) (y := y54) (as := [36893488147419103288]) rfl rfl rfl (by decide) (Nat.le_of_ble_eq_true rfl) (Nat.le_of_ble_eq_true rfl) rfl (Nat.le_of_ble_eq_true rfl) rfl (dkT_124 T12 e55) (fun T57 => ?_)
    refine wq_aload_n rfl rfl rfl ?_
    obtain ⟨y58, e59, h⟩ := od_bindE h
    refine wd_virtN (q := 56) (y := y58) (as := [36893488147419103288]) rfl rfl rfl (by decide) (Nat.le_of_ble_eq_true rfl) (Nat.le_of_ble_eq_true rfl) rfl (Nat.le_of_ble_eq_true rfl) rfl (dkT_77 T57 e59) (fun T61 => ?_)
    refine wq_aload_n rfl rfl rfl ?_
    refine wq_iconst rfl rfl ?_
    refine wq_iconst rfl rfl ?_
    refine wq_iconst rfl rfl ?_
    refine wq_iconst rfl rfl ?_
    obtain ⟨y62, e63, h⟩ := od_bindE h
    refine wd_virtN (q := 56) (y := y62) (as := [36893488147419103288, 1, 1, 0, 1]) rfl rfl rfl (by decide) (Nat.le_of_ble_eq_true rfl) (Nat.le_of_ble_eq_true rfl) rfl (Nat.le_of_ble_eq_true rfl) rfl (dkT_112 T61 (wm_zlt (by decide)) (wm_zlt (by decide)) (wm_zlt (by decide)) (wm_zlt (by decide)) e63) (fun T65 => ?_)
    refine wq_aload_n rfl rfl rfl ?_
    refine xm_getR (v := 36893488147419103291) (q := 56) rfl rfl (by decide) (by decide) (T65.r (k := 56) 3 58 rfl (by decide) rfl) ?_
    refine wq_iload_n rfl rfl (hT.i (k := 59) 3 rfl (by decide) rfl) ?_
    refine wq_iload_n rfl rfl p3 ?_
    obtain ⟨y66, e67, h⟩ := od_bindE h
    refine wd_virtN (q := 59) (y := y66) (as := [36893488147419103291, F 59 3, y1.1]) rfl rfl rfl (by decide) (Nat.le_of_ble_eq_true rfl) (Nat.le_of_ble_eq_true rfl) rfl (Nat.le_of_ble_eq_true rfl) rfl (dkT_167 T65 (hT.i (k := 59) 3 rfl (by decide) rfl) p3 e67) (fun T69 => ?_)
    refine wq_aload_n rfl rfl rfl ?_
    refine wq_iload_n rfl rfl ha0 ?_
    refine wq_iconst rfl rfl ?_
    obtain ⟨y70, e71, h⟩ := od_bindE h
    refine wd_virtN (q := 56) (y := y70) (as := [36893488147419103288, a0, 0]) rfl rfl rfl (by decide) (Nat.le_of_ble_eq_true rfl) (Nat.le_of_ble_eq_true rfl) rfl (Nat.le_of_ble_eq_true rfl) rfl (dk_s155 hR T69 ha0 (by decide) e71) (fun T73 => ?_)
    refine wq_aload_n rfl rfl rfl ?_
    refine wq_bipush rfl rfl ?_
    refine wq_iload_n rfl rfl p3 ?_
    refine wq_iconst rfl rfl ?_
    refine wq_iconst rfl rfl ?_
    obtain ⟨y74, e75, h⟩ := od_bindE h
    refine wd_virtN (q := 56) (y := y74) (as := [36893488147419103288, 6, y1.1, 0, 4294967295]) rfl rfl rfl (by decide) (Nat.le_of_ble_eq_true rfl) (Nat.le_of_ble_eq_true rfl) rfl (Nat.le_of_ble_eq_true rfl) rfl (dkT_112 T73 (by decide) p3 (wm_zlt (by decide)) (by decide) e75) (fun T77 => ?_)
    exact wq_ret rfl (wkON h T77)
def dk_131_73 (R : dk_Rt) (n : Nat) (F : wq_F) (v1 : Nat) (v2 : Nat) (v3 : Nat) : Option (Nat × wq_F) :=
  (R 155 [v1, v3] F).bind fun y1 =>
  (dk_143 y1.2 (F 56 7) (F 56 8) (F 56 9)).bind fun y5 =>
  (dk_132 y5.2 v2).bind fun y9 =>
  some (0, y9.2)
theorem dk_131_73T {d n : Nat} {R : dk_Rt} (hR : dk_spec (d + 12) R) : ∀ ⦃F : wq_F⦄ (hT : xm_T F) ⦃v1 : Nat⦄ (hv1 : v1 < 4294967296) ⦃v2 : Nat⦄ (hv2 : v2 < 4294967296) ⦃v3 : Nat⦄ (hv3 : v3 < 2) ⦃x : Nat × wq_F⦄ (h : dk_131_73 R n F v1 v2 v3 = some x), wq (wq_cf (d + 12)) (ev_un al_mX4_functionStatement.2.2.2.2) none 73 [36893488147419103288, v1, v2, v3, 73786976294838206464, 73786976294838206464, 73786976294838206464] [] xm_sh F 0 0 (wkN xm_T xm_sh x) := by
  intro F hT v1 hv1 v2 hv2 v3 hv3 x h
  unfold dk_131_73 at h
  refine wq_aload_n rfl rfl rfl ?_
  refine xm_getI (q := 56) rfl rfl (by decide) (by decide) ?_
  refine wq_istore rfl (hT.i (k := 56) 7 rfl (by decide) rfl) (Nat.le_of_ble_eq_true rfl) (Or.inr ⟨_, rfl, (wq_notL (wm_zlt hv3))⟩) (L' := [36893488147419103288, v1, v2, v3, F 56 7, 73786976294838206464, 73786976294838206464]) rfl ?_
  refine wq_aload_n rfl rfl rfl ?_
  refine xm_getI (q := 56) rfl rfl (by decide) (by decide) ?_
  refine wq_istore rfl (hT.i (k := 56) 8 rfl (by decide) rfl) (Nat.le_of_ble_eq_true rfl) (Or.inr ⟨_, rfl, (wq_notL (hT.i (k := 56) 7 rfl (by decide) rfl))⟩) (L' := [36893488147419103288, v1, v2, v3, F 56 7, F 56 8, 73786976294838206464]) rfl ?_
  refine wq_aload_n rfl rfl rfl ?_
  refine xm_getI (q := 56) rfl rfl (by decide) (by decide) ?_
  refine wq_istore rfl (hT.i (k := 56) 9 rfl (by decide) rfl) (Nat.le_of_ble_eq_true rfl) (Or.inr ⟨_, rfl, (wq_notL (hT.i (k := 56) 8 rfl (by decide) rfl))⟩) (L' := [36893488147419103288, v1, v2, v3, F 56 7, F 56 8, F 56 9]) rfl ?_
  refine wq_aload_n rfl rfl rfl ?_
  refine wq_iload_n rfl rfl hv1 ?_
  refine wq_iload_n rfl rfl (wm_zlt hv3) ?_
  obtain ⟨y1, e2, h⟩ := od_bindE h
  refine wd_virtN (q := 56) (y := y1) (as := [36893488147419103288, v1, v3]) rfl rfl rfl (by decide) (Nat.le_of_ble_eq_true rfl) (Nat.le_of_ble_eq_true rfl) rfl (Nat.le_of_ble_eq_true rfl) rfl (dk_s155 hR hT hv1 hv3 e2) (fun T4 => ?_)
  refine wq_aload_n rfl rfl rfl ?_
  refine wq_iload rfl rfl (hT.i (k := 56) 7 rfl (by decide) rfl) ?_
  refine wq_iload rfl rfl (hT.i (k := 56) 8 rfl (by decide) rfl) ?_
  refine wq_iload rfl rfl (hT.i (k := 56) 9 rfl (by decide) rfl) ?_
  obtain ⟨y5, e6, h⟩ := od_bindE h
  refine wd_virtN (q := 56) (y := y5) (as := [36893488147419103288, F 56 7, F 56 8, F 56 9]) rfl rfl rfl (by decide) (Nat.le_of_ble_eq_true rfl) (Nat.le_of_ble_eq_true rfl) rfl (Nat.le_of_ble_eq_true rfl) rfl (dkT_143 T4 (hT.i (k := 56) 7 rfl (by decide) rfl) (hT.i (k := 56) 8 rfl (by decide) rfl) (hT.i (k := 56) 9 rfl (by decide) rfl) e6) (fun T8 => ?_)
  refine wq_aload_n rfl rfl rfl ?_
  refine wq_iload_n rfl rfl hv2 ?_
  obtain ⟨y9, e10, h⟩ := od_bindE h
  refine wd_virtN (q := 56) (y := y9) (as := [36893488147419103288, v2]) rfl rfl rfl (by decide) (Nat.le_of_ble_eq_true rfl) (Nat.le_of_ble_eq_true rfl) rfl (Nat.le_of_ble_eq_true rfl) rfl (dkT_132 T8 hv2 e10) (fun T12 => ?_)
  exact wq_ret rfl (wkON h T12)
def dk_131_47 (R : dk_Rt) (n : Nat) (F : wq_F) (v1 : Nat) (v2 : Nat) : Option (Nat × wq_F) :=
  if (F 57 4) = 58 then
    if 1 = 0 then
      dk_131_73 R n F v1 v2 1
    else
      (dk_134 n F).bind fun y8 =>
      dk_131_73 R n y8.2 v1 v2 1
  else
    if 0 = 0 then
      dk_131_73 R n F v1 v2 0
    else
      (dk_134 n F).bind fun y3 =>
      dk_131_73 R n y3.2 v1 v2 0
theorem dk_131_47T {d n : Nat} {R : dk_Rt} (hR : dk_spec (d + 12) R) : ∀ ⦃u3 : Nat⦄ ⦃F : wq_F⦄ (hT : xm_T F) ⦃v1 : Nat⦄ (hv1 : v1 < 4294967296) ⦃v2 : Nat⦄ (hv2 : v2 < 4294967296) (hu3 : ev_isL u3 = false) ⦃x : Nat × wq_F⦄ (h : dk_131_47 R n F v1 v2 = some x), wq (wq_cf (d + 12)) (ev_un al_mX4_functionStatement.2.2.2.2) none 47 [36893488147419103288, v1, v2, u3, 73786976294838206464, 73786976294838206464, 73786976294838206464] [] xm_sh F 0 0 (wkN xm_T xm_sh x) := by
  intro u3 F hT v1 hv1 v2 hv2 hu3 x h
  unfold dk_131_47 at h
  refine wq_aload_n rfl rfl rfl ?_
  refine xm_getR (v := 36893488147419103289) (q := 56) rfl rfl (by decide) (by decide) (hT.r (k := 56) 0 56 rfl (by decide) rfl) ?_
  refine xm_getI (q := 57) rfl rfl (by decide) (by decide) ?_
  refine wq_bipush rfl rfl ?_
  refine wq_ic_ne rfl rfl (hT.i (k := 57) 4 rfl (by decide) rfl) (by decide) (fun h1 => ?_) (fun h1 => ?_)
  · replace h := od_neg h h1
    refine wq_iconst rfl rfl ?_
    refine wq_istore_n rfl (wm_zlt (by decide)) (Nat.le_of_ble_eq_true rfl) (Or.inr ⟨_, rfl, (wq_notL hv2)⟩) (L' := [36893488147419103288, v1, v2, 0, 73786976294838206464, 73786976294838206464, 73786976294838206464]) rfl ?_
    refine wq_iload_n rfl rfl (wm_zlt (by decide)) ?_
    refine wq_if_eq rfl rfl (wm_zlt (by decide)) (fun h2 => ?_) (fun h2 => ?_)
    · replace h := od_pos h h2
      exact dk_131_73T hR hT hv1 hv2 (by decide) h
    · replace h := od_neg h h2
      refine wq_aload_n rfl rfl rfl ?_
      obtain ⟨y3, e4, h⟩ := od_bindE h
      refine wd_virtN (q := 56) (y := y3) (as := [36893488147419103288]) rfl rfl rfl (by decide) (Nat.le_of_ble_eq_true rfl) (Nat.le_of_ble_eq_true rfl) rfl (Nat.le_of_ble_eq_true rfl) rfl (dkT_134 hT e4) (fun T6 => ?_)
      exact dk_131_73T hR T6 hv1 hv2 (by decide) h
  · replace h := od_pos h h1
    refine wq_iconst rfl rfl ?_
    refine wq_goto rfl rfl ?_
    refine wq_istore_n rfl (wm_zlt (by decide)) (Nat.le_of_ble_eq_true rfl) (Or.inr ⟨_, rfl, (wq_notL hv2)⟩) (L' := [36893488147419103288, v1, v2, 1, 73786976294838206464, 73786976294838206464, 73786976294838206464]) rfl ?_
    refine wq_iload_n rfl rfl (wm_zlt (by decide)) ?_
    refine wq_if_eq rfl rfl (wm_zlt (by decide)) (fun h7 => ?_) (fun h7 => ?_)
    · replace h := od_pos h h7
      exact dk_131_73T hR hT hv1 hv2 (by decide) h
    · replace h := od_neg h h7
      refine wq_aload_n rfl rfl rfl ?_
      obtain ⟨y8, e9, h⟩ := od_bindE h
      refine wd_virtN (q := 56) (y := y8) (as := [36893488147419103288]) rfl rfl rfl (by decide) (Nat.le_of_ble_eq_true rfl) (Nat.le_of_ble_eq_true rfl) rfl (Nat.le_of_ble_eq_true rfl) rfl (dkT_134 hT e9) (fun T11 => ?_)
      exact dk_131_73T hR T11 hv1 hv2 (by decide) h
def dk_131_18b (R : dk_Rt) (n : Nat) (r18 : wq_F → Nat → Nat → Nat → Option (Nat × wq_F)) (F : wq_F) (v1 : Nat) (v2 : Nat) (v3 : Nat) : Option (Nat × wq_F) :=
  if ev_s 1500 < ev_s v3 then
    dk_131_47 R n F v1 v2
  else
    if (F 57 4) = 60 then
      (dk_134 n F).bind fun y3 =>
      od_let ((v3 + 1) % 4294967296) fun y7 =>
      r18 y3.2 v1 v2 y7
    else
      dk_131_47 R n F v1 v2
theorem dk_131_18bT {d n : Nat} {R : dk_Rt} (hR : dk_spec (d + 12) R) {r18 : wq_F → Nat → Nat → Nat → Option (Nat × wq_F)} (hr18 : ∀ ⦃F : wq_F⦄ (hT : xm_T F) ⦃v1 : Nat⦄ (hv1 : v1 < 4294967296) ⦃v2 : Nat⦄ (hv2 : v2 < 4294967296) ⦃v3 : Nat⦄ (hv3 : v3 < 4294967296) ⦃x : Nat × wq_F⦄ (h : r18 F v1 v2 v3 = some x), wq (wq_cf (d + 12)) (ev_un al_mX4_functionStatement.2.2.2.2) none 18 [36893488147419103288, v1, v2, v3, 73786976294838206464, 73786976294838206464, 73786976294838206464] [] xm_sh F 0 0 (wkN xm_T xm_sh x)) : ∀ ⦃F : wq_F⦄ (hT : xm_T F) ⦃v1 : Nat⦄ (hv1 : v1 < 4294967296) ⦃v2 : Nat⦄ (hv2 : v2 < 4294967296) ⦃v3 : Nat⦄ (hv3 : v3 < 4294967296) ⦃x : Nat × wq_F⦄ (h : dk_131_18b R n r18 F v1 v2 v3 = some x), wq (wq_cf (d + 12)) (ev_un al_mX4_functionStatement.2.2.2.2) none 18 [36893488147419103288, v1, v2, v3, 73786976294838206464, 73786976294838206464, 73786976294838206464] [] xm_sh F 0 0 (wkN xm_T xm_sh x) := by
  intro F hT v1 hv1 v2 hv2 v3 hv3 x h
  unfold dk_131_18b at h
  refine wq_iload_n rfl rfl hv3 ?_
  refine wq_sipush rfl rfl ?_
  refine wq_ic_gt rfl rfl hv3 (by decide) (fun h1 => ?_) (fun h1 => ?_)
  · replace h := od_pos h h1
    exact dk_131_47T hR hT hv1 hv2 (wq_notL hv3) h
  · replace h := od_neg h (Nat.not_lt.mpr h1)
    refine wq_aload_n rfl rfl rfl ?_
    refine xm_getR (v := 36893488147419103289) (q := 56) rfl rfl (by decide) (by decide) (hT.r (k := 56) 0 56 rfl (by decide) rfl) ?_
    refine xm_getI (q := 57) rfl rfl (by decide) (by decide) ?_
    refine wq_bipush rfl rfl ?_
    refine wq_ic_ne rfl rfl (hT.i (k := 57) 4 rfl (by decide) rfl) (by decide) (fun h2 => ?_) (fun h2 => ?_)
    · replace h := od_neg h h2
      exact dk_131_47T hR hT hv1 hv2 (wq_notL hv3) h
    · replace h := od_pos h h2
      refine wq_aload_n rfl rfl rfl ?_
      obtain ⟨y3, e4, h⟩ := od_bindE h
      refine wd_virtN (q := 56) (y := y3) (as := [36893488147419103288]) rfl rfl rfl (by decide) (Nat.le_of_ble_eq_true rfl) (Nat.le_of_ble_eq_true rfl) rfl (Nat.le_of_ble_eq_true rfl) rfl (dkT_134 hT e4) (fun T6 => ?_)
      obtain ⟨y7, e8, h⟩ := od_letE h
      have p9 : y7 < 4294967296 := wd_lt e8 (Nat.mod_lt _ (by decide))
      refine wq_iincZ rfl rfl hv3 (Or.inr ⟨_, rfl, (wq_notL hv2)⟩) rfl (z := y7) e8.symm (L' := [36893488147419103288, v1, v2, y7, 73786976294838206464, 73786976294838206464, 73786976294838206464]) rfl ?_
      refine wq_goto rfl rfl ?_
      exact hr18 T6 hv1 hv2 p9 h
def dk_131_18 (R : dk_Rt) (n : Nat) : Nat → wq_F → Nat → Nat → Nat → Option (Nat × wq_F)
  | 0 => fun _ _ _ _ => none
  | g + 1 => dk_131_18b R n (dk_131_18 R n g)
theorem dk_131_18T {d n : Nat} {R : dk_Rt} (hR : dk_spec (d + 12) R) : ∀ g : Nat, ∀ ⦃F : wq_F⦄ (hT : xm_T F) ⦃v1 : Nat⦄ (hv1 : v1 < 4294967296) ⦃v2 : Nat⦄ (hv2 : v2 < 4294967296) ⦃v3 : Nat⦄ (hv3 : v3 < 4294967296) ⦃x : Nat × wq_F⦄ (h : dk_131_18 R n g F v1 v2 v3 = some x), wq (wq_cf (d + 12)) (ev_un al_mX4_functionStatement.2.2.2.2) none 18 [36893488147419103288, v1, v2, v3, 73786976294838206464, 73786976294838206464, 73786976294838206464] [] xm_sh F 0 0 (wkN xm_T xm_sh x)
  | 0 => by
    intro F hT v1 hv1 v2 hv2 v3 hv3 x h
    cases h
  | g + 1 => dk_131_18bT hR (dk_131_18T hR g)
/-- X4_functionStatement -/
def dk_131 (R : dk_Rt) (n : Nat) (F : wq_F) (a0 : Nat) : Option (Nat × wq_F) :=
  (dk_84 F).bind fun y1 =>
  (dk_77 n y1.2).bind fun y5 =>
  (dk_133 n y5.2).bind fun y9 =>
  dk_131_18 R n n y9.2 a0 y1.1 0
theorem dkT_131 {d n : Nat} {R : dk_Rt} (hR : dk_spec (d + 12) R) {F : wq_F} (hT : xm_T F) {a0 : Nat} (ha0 : a0 < 4294967296) {x : Nat × wq_F} (h : dk_131 R n F a0 = some x) : mq (d + 12 + 1) 131 [36893488147419103288, a0] xm_sh F (wkN xm_T xm_sh x) := by
  have e : ev_ent [36893488147419103288, a0] = [36893488147419103288, a0] := by
    show 36893488147419103288 :: ev_ent [a0] = _
    rw [wm_entI ha0]
    rfl
  refine mq_of (maxL := 7) (rt := none) (code := (ev_un al_mX4_functionStatement.2.2.2.2)) (L := [36893488147419103288, a0, 73786976294838206464, 73786976294838206464, 73786976294838206464, 73786976294838206464, 73786976294838206464]) rfl (by rw [e]; exact Nat.le_of_ble_eq_true rfl) (by rw [e]; rfl) ?_
  unfold dk_131 at h
  refine wq_aload_n rfl rfl rfl ?_
  refine xm_getR (v := 36893488147419103291) (q := 56) rfl rfl (by decide) (by decide) (hT.r (k := 56) 3 58 rfl (by decide) rfl) ?_
  obtain ⟨y1, e2, h⟩ := od_bindE h
  refine wd_virtI (q := 59) (y := y1) (as := [36893488147419103291]) rfl rfl rfl (by decide) (Nat.le_of_ble_eq_true rfl) (Nat.le_of_ble_eq_true rfl) rfl (Nat.le_of_ble_eq_true rfl) rfl (dkT_84 hT e2) (fun p3 T4 => ?_)
  refine wq_istore_n rfl p3 (Nat.le_of_ble_eq_true rfl) (Or.inr ⟨_, rfl, (wq_notL ha0)⟩) (L' := [36893488147419103288, a0, y1.1, 73786976294838206464, 73786976294838206464, 73786976294838206464, 73786976294838206464]) rfl ?_
  refine wq_aload_n rfl rfl rfl ?_
  obtain ⟨y5, e6, h⟩ := od_bindE h
  refine wd_virtN (q := 56) (y := y5) (as := [36893488147419103288]) rfl rfl rfl (by decide) (Nat.le_of_ble_eq_true rfl) (Nat.le_of_ble_eq_true rfl) rfl (Nat.le_of_ble_eq_true rfl) rfl (dkT_77 T4 e6) (fun T8 => ?_)
  refine wq_aload_n rfl rfl rfl ?_
  obtain ⟨y9, e10, h⟩ := od_bindE h
  refine wd_virtN (q := 56) (y := y9) (as := [36893488147419103288]) rfl rfl rfl (by decide) (Nat.le_of_ble_eq_true rfl) (Nat.le_of_ble_eq_true rfl) rfl (Nat.le_of_ble_eq_true rfl) rfl (dkT_133 T8 e10) (fun T12 => ?_)
  refine wq_iconst rfl rfl ?_
  refine wq_istore_n rfl (wm_zlt (by decide)) (Nat.le_of_ble_eq_true rfl) (Or.inr ⟨_, rfl, (wq_notL p3)⟩) (L' := [36893488147419103288, a0, y1.1, 0, 73786976294838206464, 73786976294838206464, 73786976294838206464]) rfl ?_
  exact dk_131_18T hR n T12 ha0 p3 (wm_zlt (by decide)) h
def dk_137_45b (R : dk_Rt) (n : Nat) (r45 : wq_F → Nat → Nat → Option (Nat × wq_F)) (F : wq_F) (v1 : Nat) (v2 : Nat) : Option (Nat × wq_F) :=
  if ev_s 1500 < ev_s v2 then
    some (0, F)
  else
    (R 138 [v1] F).bind fun y2 =>
    if y2.1 = 0 then
      some (0, y2.2)
    else
      od_let ((v2 + 1) % 4294967296) fun y7 =>
      r45 y2.2 v1 y7
theorem dk_137_45bT {d n : Nat} {R : dk_Rt} (hR : dk_spec (d + 12) R) {r45 : wq_F → Nat → Nat → Option (Nat × wq_F)} (hr45 : ∀ ⦃F : wq_F⦄ (hT : xm_T F) ⦃v1 : Nat⦄ (hv1 : v1 < 4294967296) ⦃v2 : Nat⦄ (hv2 : v2 < 4294967296) ⦃x : Nat × wq_F⦄ (h : r45 F v1 v2 = some x), wq (wq_cf (d + 12)) (ev_un al_mX4_chain.2.2.2.2) none 45 [36893488147419103288, v1, v2] [] xm_sh F 0 0 (wkN xm_T xm_sh x)) : ∀ ⦃F : wq_F⦄ (hT : xm_T F) ⦃v1 : Nat⦄ (hv1 : v1 < 4294967296) ⦃v2 : Nat⦄ (hv2 : v2 < 4294967296) ⦃x : Nat × wq_F⦄ (h : dk_137_45b R n r45 F v1 v2 = some x), wq (wq_cf (d + 12)) (ev_un al_mX4_chain.2.2.2.2) none 45 [36893488147419103288, v1, v2] [] xm_sh F 0 0 (wkN xm_T xm_sh x) := by
  intro F hT v1 hv1 v2 hv2 x h
  unfold dk_137_45b at h
  refine wq_iload_n rfl rfl hv2 ?_
  refine wq_sipush rfl rfl ?_
  refine wq_ic_gt rfl rfl hv2 (by decide) (fun h1 => ?_) (fun h1 => ?_)
  · replace h := od_pos h h1
    exact wq_ret rfl (wkON h hT)
  · replace h := od_neg h (Nat.not_lt.mpr h1)
    refine wq_aload_n rfl rfl rfl ?_
    refine wq_iload_n rfl rfl hv1 ?_
    obtain ⟨y2, e3, h⟩ := od_bindE h
    refine wd_virtZ (q := 56) (y := y2) (as := [36893488147419103288, v1]) rfl rfl rfl (by decide) (Nat.le_of_ble_eq_true rfl) (Nat.le_of_ble_eq_true rfl) rfl (Nat.le_of_ble_eq_true rfl) rfl (dk_s138 hR hT hv1 e3) (fun p4 T5 => ?_)
    refine wq_if_eq rfl rfl (wm_zlt p4) (fun h6 => ?_) (fun h6 => ?_)
    · replace h := od_pos h h6
      exact wq_ret rfl (wkON h T5)
    · replace h := od_neg h h6
      obtain ⟨y7, e8, h⟩ := od_letE h
      have p9 : y7 < 4294967296 := wd_lt e8 (Nat.mod_lt _ (by decide))
      refine wq_iincZ rfl rfl hv2 (Or.inr ⟨_, rfl, (wq_notL hv1)⟩) rfl (z := y7) e8.symm (L' := [36893488147419103288, v1, y7]) rfl ?_
      refine wq_goto rfl rfl ?_
      exact hr45 T5 hv1 p9 h
def dk_137_45 (R : dk_Rt) (n : Nat) : Nat → wq_F → Nat → Nat → Option (Nat × wq_F)
  | 0 => fun _ _ _ => none
  | g + 1 => dk_137_45b R n (dk_137_45 R n g)
theorem dk_137_45T {d n : Nat} {R : dk_Rt} (hR : dk_spec (d + 12) R) : ∀ g : Nat, ∀ ⦃F : wq_F⦄ (hT : xm_T F) ⦃v1 : Nat⦄ (hv1 : v1 < 4294967296) ⦃v2 : Nat⦄ (hv2 : v2 < 4294967296) ⦃x : Nat × wq_F⦄ (h : dk_137_45 R n g F v1 v2 = some x), wq (wq_cf (d + 12)) (ev_un al_mX4_chain.2.2.2.2) none 45 [36893488147419103288, v1, v2] [] xm_sh F 0 0 (wkN xm_T xm_sh x)
  | 0 => by
    intro F hT v1 hv1 v2 hv2 x h
    cases h
  | g + 1 => dk_137_45bT hR (dk_137_45T hR g)
/-- X4_chain -/
def dk_137 (R : dk_Rt) (n : Nat) (F : wq_F) (a0 : Nat) : Option (Nat × wq_F) :=
  if (F 57 4) = 51 then
    (dk_77 n F).bind fun y6 =>
    (R 148 [0, (a0 + 1) % 4294967296] y6.2).bind fun y10 =>
    (dk_110 n y10.2 52).bind fun y14 =>
    od_up y14.2 56 7 4294967295 fun F18 =>
    dk_137_45 R n n F18 a0 0
  else
    (dk_133 n F).bind fun y2 =>
    dk_137_45 R n n y2.2 a0 0
theorem dkT_137 {d n : Nat} {R : dk_Rt} (hR : dk_spec (d + 12) R) {F : wq_F} (hT : xm_T F) {a0 : Nat} (ha0 : a0 < 4294967296) {x : Nat × wq_F} (h : dk_137 R n F a0 = some x) : mq (d + 12 + 1) 137 [36893488147419103288, a0] xm_sh F (wkN xm_T xm_sh x) := by
  have e : ev_ent [36893488147419103288, a0] = [36893488147419103288, a0] := by
    show 36893488147419103288 :: ev_ent [a0] = _
    rw [wm_entI ha0]
    rfl
  refine mq_of (maxL := 3) (rt := none) (code := (ev_un al_mX4_chain.2.2.2.2)) (L := [36893488147419103288, a0, 73786976294838206464]) rfl (by rw [e]; exact Nat.le_of_ble_eq_true rfl) (by rw [e]; rfl) ?_
  unfold dk_137 at h
  refine wq_aload_n rfl rfl rfl ?_
  refine xm_getR (v := 36893488147419103289) (q := 56) rfl rfl (by decide) (by decide) (hT.r (k := 56) 0 56 rfl (by decide) rfl) ?_
  refine xm_getI (q := 57) rfl rfl (by decide) (by decide) ?_
  refine wq_bipush rfl rfl ?_
  refine wq_ic_ne rfl rfl (hT.i (k := 57) 4 rfl (by decide) rfl) (by decide) (fun h1 => ?_) (fun h1 => ?_)
  · replace h := od_neg h h1
    refine wq_aload_n rfl rfl rfl ?_
    obtain ⟨y2, e3, h⟩ := od_bindE h
    refine wd_virtN (q := 56) (y := y2) (as := [36893488147419103288]) rfl rfl rfl (by decide) (Nat.le_of_ble_eq_true rfl) (Nat.le_of_ble_eq_true rfl) rfl (Nat.le_of_ble_eq_true rfl) rfl (dkT_133 hT e3) (fun T5 => ?_)
    refine wq_iconst rfl rfl ?_
    refine wq_istore_n rfl (wm_zlt (by decide)) (Nat.le_of_ble_eq_true rfl) (Or.inr ⟨_, rfl, (wq_notL ha0)⟩) (L' := [36893488147419103288, a0, 0]) rfl ?_
    exact dk_137_45T hR n T5 ha0 (wm_zlt (by decide)) h
  · replace h := od_pos h h1
    refine wq_aload_n rfl rfl rfl ?_
    obtain ⟨y6, e7, h⟩ := od_bindE h
    refine wd_virtN (q := 56) (y := y6) (as := [36893488147419103288]) rfl rfl rfl (by decide) (Nat.le_of_ble_eq_true rfl) (Nat.le_of_ble_eq_true rfl) rfl (Nat.le_of_ble_eq_true rfl) rfl (dkT_77 hT e7) (fun T9 => ?_)
    refine wq_aload_n rfl rfl rfl ?_
    refine wq_iconst rfl rfl ?_
    refine wq_iload_n rfl rfl ha0 ?_
    refine wq_iconst rfl rfl ?_
    refine wq_iaddZ rfl ha0 (wm_zlt (by decide)) (z := (a0 + 1) % 4294967296) rfl ?_
    obtain ⟨y10, e11, h⟩ := od_bindE h
    refine wd_virtZ (q := 56) (y := y10) (as := [36893488147419103288, 0, (a0 + 1) % 4294967296]) rfl rfl rfl (by decide) (Nat.le_of_ble_eq_true rfl) (Nat.le_of_ble_eq_true rfl) rfl (Nat.le_of_ble_eq_true rfl) rfl (dk_s148 hR T9 (wm_zlt (by decide)) (Nat.mod_lt _ (by decide)) e11) (fun p12 T13 => ?_)
    refine wq_pop rfl (wq_notL (wm_zlt p12)) ?_
    refine wq_aload_n rfl rfl rfl ?_
    refine wq_bipush rfl rfl ?_
    obtain ⟨y14, e15, h⟩ := od_bindE h
    refine wd_virtN (q := 56) (y := y14) (as := [36893488147419103288, 52]) rfl rfl rfl (by decide) (Nat.le_of_ble_eq_true rfl) (Nat.le_of_ble_eq_true rfl) rfl (Nat.le_of_ble_eq_true rfl) rfl (dkT_110 T13 (by decide) e15) (fun T17 => ?_)
    refine wq_aload_n rfl rfl rfl ?_
    refine wq_iconst rfl rfl ?_
    obtain ⟨F18, e19, h⟩ := od_upE h
    refine xmE_put (q := 56) rfl rfl (by decide) (by decide) (wq_I (by decide)) e19 ?_
    have T20 : xm_T F18 := wd_T e19 (T17.uf (k := 56) (f := 7) (c := 0) (v := 4294967295) rfl (by decide) rfl (show 4294967295 < 4294967296 from (by decide)))
    refine wq_goto rfl rfl ?_
    refine wq_iconst rfl rfl ?_
    refine wq_istore_n rfl (wm_zlt (by decide)) (Nat.le_of_ble_eq_true rfl) (Or.inr ⟨_, rfl, (wq_notL ha0)⟩) (L' := [36893488147419103288, a0, 0]) rfl ?_
    exact dk_137_45T hR n T20 ha0 (wm_zlt (by decide)) h
/-- X4_link -/
def dk_138 (R : dk_Rt) (n : Nat) (F : wq_F) (a0 : Nat) : Option (Nat × wq_F) :=
  od_let (F 57 4) fun y1 =>
  if y1 = 4 then
    (dk_136 F).bind fun y5 =>
    (dk_84 y5.2).bind fun y9 =>
    od_let ((y9.1 + (4294967296 - 1)) % 4294967296) fun y13 =>
    (R 139 [y13, a0] y9.2).bind fun y16 =>
    some (1, y16.2)
  else if y1 = 51 then
    (dk_136 F).bind fun y21 =>
    (dk_84 y21.2).bind fun y25 =>
    od_let ((y25.1 + (4294967296 - 1)) % 4294967296) fun y29 =>
    (R 139 [y29, a0] y25.2).bind fun y32 =>
    some (1, y32.2)
  else if y1 = 53 then
    (dk_136 F).bind fun y37 =>
    (dk_84 y37.2).bind fun y41 =>
    od_let ((y41.1 + (4294967296 - 1)) % 4294967296) fun y45 =>
    (R 139 [y45, a0] y41.2).bind fun y48 =>
    some (1, y48.2)
  else if y1 = 55 then
    (dk_136 F).bind fun y53 =>
    (dk_77 n y53.2).bind fun y57 =>
    (R 148 [0, (a0 + 1) % 4294967296] y57.2).bind fun y61 =>
    (dk_110 n y61.2 56).bind fun y65 =>
    od_up y65.2 56 7 11 fun F69 =>
    (dk_84 F69).bind fun y72 =>
    od_let ((y72.1 + (4294967296 - 2)) % 4294967296) fun y76 =>
    od_up y72.2 56 8 y76 fun F79 =>
    od_up F79 56 9 (F 57 6) fun F82 =>
    some (1, F82)
  else if y1 = 58 then
    (dk_136 F).bind fun y86 =>
    (dk_77 n y86.2).bind fun y90 =>
    (dk_112 y90.2 29 0 (F 57 6) 1).bind fun y94 =>
    (dk_135 y94.2).bind fun y98 =>
    (dk_77 n y98.2).bind fun y102 =>
    (dk_112 y102.2 11 0 (F 57 6) 4294967295).bind fun y106 =>
    (dk_112 y106.2 30 0 (F 57 6) 0).bind fun y110 =>
    (dk_84 y110.2).bind fun y114 =>
    od_let ((y114.1 + (4294967296 - 2)) % 4294967296) fun y118 =>
    (R 139 [y118, a0] y114.2).bind fun y121 =>
    some (1, y121.2)
  else if y1 = 60 then
    (dk_134 n F).bind fun y126 =>
    some (1, y126.2)
  else 
  some (0, F)
theorem dkT_138 {d n : Nat} {R : dk_Rt} (hR : dk_spec (d + 12) R) {F : wq_F} (hT : xm_T F) {a0 : Nat} (ha0 : a0 < 4294967296) {x : Nat × wq_F} (h : dk_138 R n F a0 = some x) : mq (d + 12 + 1) 138 [36893488147419103288, a0] xm_sh F (wkZ xm_T xm_sh x) := by
  have e : ev_ent [36893488147419103288, a0] = [36893488147419103288, a0] := by
    show 36893488147419103288 :: ev_ent [a0] = _
    rw [wm_entI ha0]
    rfl
  refine mq_of (maxL := 3) (rt := (some .boolean)) (code := (ev_un al_mX4_link.2.2.2.2)) (L := [36893488147419103288, a0, 73786976294838206464]) rfl (by rw [e]; exact Nat.le_of_ble_eq_true rfl) (by rw [e]; rfl) ?_
  unfold dk_138 at h
  refine wq_aload_n rfl rfl rfl ?_
  refine xm_getR (v := 36893488147419103289) (q := 56) rfl rfl (by decide) (by decide) (hT.r (k := 56) 0 56 rfl (by decide) rfl) ?_
  refine xm_getI (q := 57) rfl rfl (by decide) (by decide) ?_
  refine wq_istore_n rfl (hT.i (k := 57) 6 rfl (by decide) rfl) (Nat.le_of_ble_eq_true rfl) (Or.inr ⟨_, rfl, (wq_notL ha0)⟩) (L' := [36893488147419103288, a0, F 57 6]) rfl ?_
  refine wq_aload_n rfl rfl rfl ?_
  refine xm_getR (v := 36893488147419103289) (q := 56) rfl rfl (by decide) (by decide) (hT.r (k := 56) 0 56 rfl (by decide) rfl) ?_
  refine xm_getI (q := 57) rfl rfl (by decide) (by decide) ?_
  obtain ⟨y1, e2, h⟩ := od_letE h
  refine wq_top e2.symm ?_
  have p3 : y1 < 4294967296 := wd_lt e2 (hT.i (k := 57) 4 rfl (by decide) rfl)
  by_cases h4 : y1 = 4
  case pos =>
    replace h := od_pos h h4
    refine wq_top h4 ?_
    refine wq_lsw rfl (by decide) rfl (tgt := 186) rfl ?_
    refine wq_aload_n rfl rfl rfl ?_
    obtain ⟨y5, e6, h⟩ := od_bindE h
    refine wd_virtN (q := 56) (y := y5) (as := [36893488147419103288]) rfl rfl rfl (by decide) (Nat.le_of_ble_eq_true rfl) (Nat.le_of_ble_eq_true rfl) rfl (Nat.le_of_ble_eq_true rfl) rfl (dkT_136 hT e6) (fun T8 => ?_)
    refine wq_aload_n rfl rfl rfl ?_
    refine wq_aload_n rfl rfl rfl ?_
    refine xm_getR (v := 36893488147419103291) (q := 56) rfl rfl (by decide) (by decide) (T8.r (k := 56) 3 58 rfl (by decide) rfl) ?_
    obtain ⟨y9, e10, h⟩ := od_bindE h
    refine wd_virtI (q := 59) (y := y9) (as := [36893488147419103291]) rfl rfl rfl (by decide) (Nat.le_of_ble_eq_true rfl) (Nat.le_of_ble_eq_true rfl) rfl (Nat.le_of_ble_eq_true rfl) rfl (dkT_84 T8 e10) (fun p11 T12 => ?_)
    refine wq_iconst rfl rfl ?_
    refine wq_isubZ rfl p11 (wm_zlt (by decide)) (z := (y9.1 + (4294967296 - 1)) % 4294967296) rfl ?_
    obtain ⟨y13, e14, h⟩ := od_letE h
    refine wq_top e14.symm ?_
    have p15 : y13 < 4294967296 := wd_lt e14 (Nat.mod_lt _ (by decide))
    refine wq_iload_n rfl rfl ha0 ?_
    obtain ⟨y16, e17, h⟩ := od_bindE h
    refine wd_virtN (q := 56) (y := y16) (as := [36893488147419103288, y13, a0]) rfl rfl rfl (by decide) (Nat.le_of_ble_eq_true rfl) (Nat.le_of_ble_eq_true rfl) rfl (Nat.le_of_ble_eq_true rfl) rfl (dk_s139 hR T12 p15 ha0 e17) (fun T19 => ?_)
    refine wq_iconst rfl rfl ?_
    exact wq_iret rfl (wm_zlt (by decide)) (Nat.blt_eq.mpr (by decide)) (wkOZ h T19 (by decide))
  replace h := od_neg h h4
  by_cases h20 : y1 = 51
  case pos =>
    replace h := od_pos h h20
    refine wq_top h20 ?_
    refine wq_lsw rfl (by decide) rfl (tgt := 186) rfl ?_
    refine wq_aload_n rfl rfl rfl ?_
    obtain ⟨y21, e22, h⟩ := od_bindE h
    refine wd_virtN (q := 56) (y := y21) (as := [36893488147419103288]) rfl rfl rfl (by decide) (Nat.le_of_ble_eq_true rfl) (Nat.le_of_ble_eq_true rfl) rfl (Nat.le_of_ble_eq_true rfl) rfl (dkT_136 hT e22) (fun T24 => ?_)
    refine wq_aload_n rfl rfl rfl ?_
    refine wq_aload_n rfl rfl rfl ?_
    refine xm_getR (v := 36893488147419103291) (q := 56) rfl rfl (by decide) (by decide) (T24.r (k := 56) 3 58 rfl (by decide) rfl) ?_
    obtain ⟨y25, e26, h⟩ := od_bindE h
    refine wd_virtI (q := 59) (y := y25) (as := [36893488147419103291]) rfl rfl rfl (by decide) (Nat.le_of_ble_eq_true rfl) (Nat.le_of_ble_eq_true rfl) rfl (Nat.le_of_ble_eq_true rfl) rfl (dkT_84 T24 e26) (fun p27 T28 => ?_)
    refine wq_iconst rfl rfl ?_
    refine wq_isubZ rfl p27 (wm_zlt (by decide)) (z := (y25.1 + (4294967296 - 1)) % 4294967296) rfl ?_
    obtain ⟨y29, e30, h⟩ := od_letE h
    refine wq_top e30.symm ?_
    have p31 : y29 < 4294967296 := wd_lt e30 (Nat.mod_lt _ (by decide))
    refine wq_iload_n rfl rfl ha0 ?_
    obtain ⟨y32, e33, h⟩ := od_bindE h
    refine wd_virtN (q := 56) (y := y32) (as := [36893488147419103288, y29, a0]) rfl rfl rfl (by decide) (Nat.le_of_ble_eq_true rfl) (Nat.le_of_ble_eq_true rfl) rfl (Nat.le_of_ble_eq_true rfl) rfl (dk_s139 hR T28 p31 ha0 e33) (fun T35 => ?_)
    refine wq_iconst rfl rfl ?_
    exact wq_iret rfl (wm_zlt (by decide)) (Nat.blt_eq.mpr (by decide)) (wkOZ h T35 (by decide))
  replace h := od_neg h h20
  by_cases h36 : y1 = 53
  case pos =>
    replace h := od_pos h h36
    refine wq_top h36 ?_
    refine wq_lsw rfl (by decide) rfl (tgt := 186) rfl ?_
    refine wq_aload_n rfl rfl rfl ?_
    obtain ⟨y37, e38, h⟩ := od_bindE h
    refine wd_virtN (q := 56) (y := y37) (as := [36893488147419103288]) rfl rfl rfl (by decide) (Nat.le_of_ble_eq_true rfl) (Nat.le_of_ble_eq_true rfl) rfl (Nat.le_of_ble_eq_true rfl) rfl (dkT_136 hT e38) (fun T40 => ?_)
    refine wq_aload_n rfl rfl rfl ?_
    refine wq_aload_n rfl rfl rfl ?_
    refine xm_getR (v := 36893488147419103291) (q := 56) rfl rfl (by decide) (by decide) (T40.r (k := 56) 3 58 rfl (by decide) rfl) ?_
    obtain ⟨y41, e42, h⟩ := od_bindE h
    refine wd_virtI (q := 59) (y := y41) (as := [36893488147419103291]) rfl rfl rfl (by decide) (Nat.le_of_ble_eq_true rfl) (Nat.le_of_ble_eq_true rfl) rfl (Nat.le_of_ble_eq_true rfl) rfl (dkT_84 T40 e42) (fun p43 T44 => ?_)
    refine wq_iconst rfl rfl ?_
    refine wq_isubZ rfl p43 (wm_zlt (by decide)) (z := (y41.1 + (4294967296 - 1)) % 4294967296) rfl ?_
    obtain ⟨y45, e46, h⟩ := od_letE h
    refine wq_top e46.symm ?_
    have p47 : y45 < 4294967296 := wd_lt e46 (Nat.mod_lt _ (by decide))
    refine wq_iload_n rfl rfl ha0 ?_
    obtain ⟨y48, e49, h⟩ := od_bindE h
    refine wd_virtN (q := 56) (y := y48) (as := [36893488147419103288, y45, a0]) rfl rfl rfl (by decide) (Nat.le_of_ble_eq_true rfl) (Nat.le_of_ble_eq_true rfl) rfl (Nat.le_of_ble_eq_true rfl) rfl (dk_s139 hR T44 p47 ha0 e49) (fun T51 => ?_)
    refine wq_iconst rfl rfl ?_
    exact wq_iret rfl (wm_zlt (by decide)) (Nat.blt_eq.mpr (by decide)) (wkOZ h T51 (by decide))
  replace h := od_neg h h36
  by_cases h52 : y1 = 55
  case pos =>
    replace h := od_pos h h52
    refine wq_top h52 ?_
    refine wq_lsw rfl (by decide) rfl (tgt := 78) rfl ?_
    refine wq_aload_n rfl rfl rfl ?_
    obtain ⟨y53, e54, h⟩ := od_bindE h
    refine wd_virtN (q := 56) (y := y53) (as := [36893488147419103288]) rfl rfl rfl (by decide) (Nat.le_of_ble_eq_true rfl) (Nat.le_of_ble_eq_true rfl) rfl (Nat.le_of_ble_eq_true rfl) rfl (dkT_136 hT e54) (fun T56 => ?_)
    refine wq_aload_n rfl rfl rfl ?_
    obtain ⟨y57, e58, h⟩ := od_bindE h
    refine wd_virtN (q := 56) (y := y57) (as := [36893488147419103288]) rfl rfl rfl (by decide) (Nat.le_of_ble_eq_true rfl) (Nat.le_of_ble_eq_true rfl) rfl (Nat.le_of_ble_eq_true rfl) rfl (dkT_77 T56 e58) (fun T60 => ?_)
    refine wq_aload_n rfl rfl rfl ?_
    refine wq_iconst rfl rfl ?_
    refine wq_iload_n rfl rfl ha0 ?_
    refine wq_iconst rfl rfl ?_
    refine wq_iaddZ rfl ha0 (wm_zlt (by decide)) (z := (a0 + 1) % 4294967296) rfl ?_
    obtain ⟨y61, e62, h⟩ := od_bindE h
    refine wd_virtZ (q := 56) (y := y61) (as := [36893488147419103288, 0, (a0 + 1) % 4294967296]) rfl rfl rfl (by decide) (Nat.le_of_ble_eq_true rfl) (Nat.le_of_ble_eq_true rfl) rfl (Nat.le_of_ble_eq_true rfl) rfl (dk_s148 hR T60 (wm_zlt (by decide)) (Nat.mod_lt _ (by decide)) e62) (fun p63 T64 => ?_)
    refine wq_pop rfl (wq_notL (wm_zlt p63)) ?_
    refine wq_aload_n rfl rfl rfl ?_
    refine wq_bipush rfl rfl ?_
    obtain ⟨y65, e66, h⟩ := od_bindE h
    refine wd_virtN (q := 56) (y := y65) (as := [36893488147419103288, 56]) rfl rfl rfl (by decide) (Nat.le_of_ble_eq_true rfl) (Nat.le_of_ble_eq_true rfl) rfl (Nat.le_of_ble_eq_true rfl) rfl (dkT_110 T64 (by decide) e66) (fun T68 => ?_)
    refine wq_aload_n rfl rfl rfl ?_
    refine wq_bipush rfl rfl ?_
    obtain ⟨F69, e70, h⟩ := od_upE h
    refine xmE_put (q := 56) rfl rfl (by decide) (by decide) (wq_I (by decide)) e70 ?_
    have T71 : xm_T F69 := wd_T e70 (T68.uf (k := 56) (f := 7) (c := 0) (v := 11) rfl (by decide) rfl (show 11 < 4294967296 from (by decide)))
    refine wq_aload_n rfl rfl rfl ?_
    refine wq_aload_n rfl rfl rfl ?_
    refine xm_getR (v := 36893488147419103291) (q := 56) rfl rfl (by decide) (by decide) (T71.r (k := 56) 3 58 rfl (by decide) rfl) ?_
    obtain ⟨y72, e73, h⟩ := od_bindE h
    refine wd_virtI (q := 59) (y := y72) (as := [36893488147419103291]) rfl rfl rfl (by decide) (Nat.le_of_ble_eq_true rfl) (Nat.le_of_ble_eq_true rfl) rfl (Nat.le_of_ble_eq_true rfl) rfl (dkT_84 T71 e73) (fun p74 T75 => ?_)
    refine wq_iconst rfl rfl ?_
    refine wq_isubZ rfl p74 (by decide) (z := (y72.1 + (4294967296 - 2)) % 4294967296) rfl ?_
    obtain ⟨y76, e77, h⟩ := od_letE h
    refine wq_top e77.symm ?_
    have p78 : y76 < 4294967296 := wd_lt e77 (Nat.mod_lt _ (by decide))
    obtain ⟨F79, e80, h⟩ := od_upE h
    refine xmE_put (q := 56) rfl rfl (by decide) (by decide) (wq_I p78) e80 ?_
    have T81 : xm_T F79 := wd_T e80 (T75.uf (k := 56) (f := 8) (c := 0) (v := y76) rfl (by decide) rfl (show y76 < 4294967296 from p78))
    refine wq_aload_n rfl rfl rfl ?_
    refine wq_iload_n rfl rfl (hT.i (k := 57) 6 rfl (by decide) rfl) ?_
    obtain ⟨F82, e83, h⟩ := od_upE h
    refine xmE_put (q := 56) rfl rfl (by decide) (by decide) (wq_I (hT.i (k := 57) 6 rfl (by decide) rfl)) e83 ?_
    have T84 : xm_T F82 := wd_T e83 (T81.uf (k := 56) (f := 9) (c := 0) (v := F 57 6) rfl (by decide) rfl (show F 57 6 < 4294967296 from (hT.i (k := 57) 6 rfl (by decide) rfl)))
    refine wq_iconst rfl rfl ?_
    exact wq_iret rfl (wm_zlt (by decide)) (Nat.blt_eq.mpr (by decide)) (wkOZ h T84 (by decide))
  replace h := od_neg h h52
  by_cases h85 : y1 = 58
  case pos =>
    replace h := od_pos h h85
    refine wq_top h85 ?_
    refine wq_lsw rfl (by decide) rfl (tgt := 127) rfl ?_
    refine wq_aload_n rfl rfl rfl ?_
    obtain ⟨y86, e87, h⟩ := od_bindE h
    refine wd_virtN (q := 56) (y := y86) (as := [36893488147419103288]) rfl rfl rfl (by decide) (Nat.le_of_ble_eq_true rfl) (Nat.le_of_ble_eq_true rfl) rfl (Nat.le_of_ble_eq_true rfl) rfl (dkT_136 hT e87) (fun T89 => ?_)
    refine wq_aload_n rfl rfl rfl ?_
    obtain ⟨y90, e91, h⟩ := od_bindE h
    refine wd_virtN (q := 56) (y := y90) (as := [36893488147419103288]) rfl rfl rfl (by decide) (Nat.le_of_ble_eq_true rfl) (Nat.le_of_ble_eq_true rfl) rfl (Nat.le_of_ble_eq_true rfl) rfl (dkT_77 T89 e91) (fun T93 => ?_)
    refine wq_aload_n rfl rfl rfl ?_
    refine wq_bipush rfl rfl ?_
    refine wq_iconst rfl rfl ?_
    refine wq_iload_n rfl rfl (hT.i (k := 57) 6 rfl (by decide) rfl) ?_
    refine wq_iconst rfl rfl ?_
    obtain ⟨y94, e95, h⟩ := od_bindE h
    refine wd_virtN (q := 56) (y := y94) (as := [36893488147419103288, 29, 0, F 57 6, 1]) rfl rfl rfl (by decide) (Nat.le_of_ble_eq_true rfl) (Nat.le_of_ble_eq_true rfl) rfl (Nat.le_of_ble_eq_true rfl) rfl (dkT_112 T93 (by decide) (wm_zlt (by decide)) (hT.i (k := 57) 6 rfl (by decide) rfl) (wm_zlt (by decide)) e95) (fun T97 => ?_)
    refine wq_aload_n rfl rfl rfl ?_
    obtain ⟨y98, e99, h⟩ := od_bindE h
    refine wd_virtN (q := 56) (y := y98) (as := [36893488147419103288]) rfl rfl rfl (by decide) (Nat.le_of_ble_eq_true rfl) (Nat.le_of_ble_eq_true rfl) rfl (Nat.le_of_ble_eq_true rfl) rfl (dkT_135 T97 e99) (fun T101 => ?_)
    refine wq_aload_n rfl rfl rfl ?_
    obtain ⟨y102, e103, h⟩ := od_bindE h
    refine wd_virtN (q := 56) (y := y102) (as := [36893488147419103288]) rfl rfl rfl (by decide) (Nat.le_of_ble_eq_true rfl) (Nat.le_of_ble_eq_true rfl) rfl (Nat.le_of_ble_eq_true rfl) rfl (dkT_77 T101 e103) (fun T105 => ?_)
    refine wq_aload_n rfl rfl rfl ?_
    refine wq_bipush rfl rfl ?_
    refine wq_iconst rfl rfl ?_
    refine wq_iload_n rfl rfl (hT.i (k := 57) 6 rfl (by decide) rfl) ?_
    refine wq_iconst rfl rfl ?_
    obtain ⟨y106, e107, h⟩ := od_bindE h
    refine wd_virtN (q := 56) (y := y106) (as := [36893488147419103288, 11, 0, F 57 6, 4294967295]) rfl rfl rfl (by decide) (Nat.le_of_ble_eq_true rfl) (Nat.le_of_ble_eq_true rfl) rfl (Nat.le_of_ble_eq_true rfl) rfl (dkT_112 T105 (by decide) (wm_zlt (by decide)) (hT.i (k := 57) 6 rfl (by decide) rfl) (by decide) e107) (fun T109 => ?_)
    refine wq_aload_n rfl rfl rfl ?_
    refine wq_bipush rfl rfl ?_
    refine wq_iconst rfl rfl ?_
    refine wq_iload_n rfl rfl (hT.i (k := 57) 6 rfl (by decide) rfl) ?_
    refine wq_iconst rfl rfl ?_
    obtain ⟨y110, e111, h⟩ := od_bindE h
    refine wd_virtN (q := 56) (y := y110) (as := [36893488147419103288, 30, 0, F 57 6, 0]) rfl rfl rfl (by decide) (Nat.le_of_ble_eq_true rfl) (Nat.le_of_ble_eq_true rfl) rfl (Nat.le_of_ble_eq_true rfl) rfl (dkT_112 T109 (by decide) (wm_zlt (by decide)) (hT.i (k := 57) 6 rfl (by decide) rfl) (wm_zlt (by decide)) e111) (fun T113 => ?_)
    refine wq_aload_n rfl rfl rfl ?_
    refine wq_aload_n rfl rfl rfl ?_
    refine xm_getR (v := 36893488147419103291) (q := 56) rfl rfl (by decide) (by decide) (T113.r (k := 56) 3 58 rfl (by decide) rfl) ?_
    obtain ⟨y114, e115, h⟩ := od_bindE h
    refine wd_virtI (q := 59) (y := y114) (as := [36893488147419103291]) rfl rfl rfl (by decide) (Nat.le_of_ble_eq_true rfl) (Nat.le_of_ble_eq_true rfl) rfl (Nat.le_of_ble_eq_true rfl) rfl (dkT_84 T113 e115) (fun p116 T117 => ?_)
    refine wq_iconst rfl rfl ?_
    refine wq_isubZ rfl p116 (by decide) (z := (y114.1 + (4294967296 - 2)) % 4294967296) rfl ?_
    obtain ⟨y118, e119, h⟩ := od_letE h
    refine wq_top e119.symm ?_
    have p120 : y118 < 4294967296 := wd_lt e119 (Nat.mod_lt _ (by decide))
    refine wq_iload_n rfl rfl ha0 ?_
    obtain ⟨y121, e122, h⟩ := od_bindE h
    refine wd_virtN (q := 56) (y := y121) (as := [36893488147419103288, y118, a0]) rfl rfl rfl (by decide) (Nat.le_of_ble_eq_true rfl) (Nat.le_of_ble_eq_true rfl) rfl (Nat.le_of_ble_eq_true rfl) rfl (dk_s139 hR T117 p120 ha0 e122) (fun T124 => ?_)
    refine wq_iconst rfl rfl ?_
    exact wq_iret rfl (wm_zlt (by decide)) (Nat.blt_eq.mpr (by decide)) (wkOZ h T124 (by decide))
  replace h := od_neg h h85
  by_cases h125 : y1 = 60
  case pos =>
    replace h := od_pos h h125
    refine wq_top h125 ?_
    refine wq_lsw rfl (by decide) rfl (tgt := 72) rfl ?_
    refine wq_aload_n rfl rfl rfl ?_
    obtain ⟨y126, e127, h⟩ := od_bindE h
    refine wd_virtN (q := 56) (y := y126) (as := [36893488147419103288]) rfl rfl rfl (by decide) (Nat.le_of_ble_eq_true rfl) (Nat.le_of_ble_eq_true rfl) rfl (Nat.le_of_ble_eq_true rfl) rfl (dkT_134 hT e127) (fun T129 => ?_)
    refine wq_iconst rfl rfl ?_
    exact wq_iret rfl (wm_zlt (by decide)) (Nat.blt_eq.mpr (by decide)) (wkOZ h T129 (by decide))
  replace h := od_neg h h125
  refine wq_lswD rfl p3 rfl (List.forall_mem_cons.mpr ⟨wq_siNe (v := 4) p3 (by decide) h4, (List.forall_mem_cons.mpr ⟨wq_siNe (v := 51) p3 (by decide) h20, (List.forall_mem_cons.mpr ⟨wq_siNe (v := 53) p3 (by decide) h36, (List.forall_mem_cons.mpr ⟨wq_siNe (v := 55) p3 (by decide) h52, (List.forall_mem_cons.mpr ⟨wq_siNe (v := 58) p3 (by decide) h85, (List.forall_mem_cons.mpr ⟨wq_siNe (v := 60) p3 (by decide) h125, (fun _ h => absurd h List.not_mem_nil)⟩)⟩)⟩)⟩)⟩)⟩) rfl (tgt := 206) rfl ?_
  refine wq_iconst rfl rfl ?_
  exact wq_iret rfl (wm_zlt (by decide)) (Nat.blt_eq.mpr (by decide)) (wkOZ h hT (by decide))
def dk_139_93 (R : dk_Rt) (n : Nat) (F : wq_F) (v1 : Nat) (v3 : Nat) : Option (Nat × wq_F) :=
  (dk_78 F 19 v1 1 v3).bind fun y1 =>
  (dk_162 y1.2 ((v1 + 1) % 4294967296)).bind fun y5 =>
  od_up y5.2 56 7 4294967294 fun F9 =>
  some (0, F9)
theorem dk_139_93T {d n : Nat} {R : dk_Rt} (hR : dk_spec (d + 12) R) : ∀ ⦃u2 : Nat⦄ ⦃F : wq_F⦄ (hT : xm_T F) ⦃v1 : Nat⦄ (hv1 : v1 < 4294967296) ⦃v3 : Nat⦄ (hv3 : v3 < 4294967296) (hu2 : ev_isL u2 = false) ⦃x : Nat × wq_F⦄ (h : dk_139_93 R n F v1 v3 = some x), wq (wq_cf (d + 12)) (ev_un al_mX4_given.2.2.2.2) none 93 [36893488147419103288, v1, u2, v3] [] xm_sh F 0 0 (wkN xm_T xm_sh x) := by
  intro u2 F hT v1 hv1 v3 hv3 hu2 x h
  unfold dk_139_93 at h
  refine wq_aload_n rfl rfl rfl ?_
  refine wq_bipush rfl rfl ?_
  refine wq_iload_n rfl rfl hv1 ?_
  refine wq_iconst rfl rfl ?_
  refine wq_iload_n rfl rfl hv3 ?_
  obtain ⟨y1, e2, h⟩ := od_bindE h
  refine wd_virtI (q := 56) (y := y1) (as := [36893488147419103288, 19, v1, 1, v3]) rfl rfl rfl (by decide) (Nat.le_of_ble_eq_true rfl) (Nat.le_of_ble_eq_true rfl) rfl (Nat.le_of_ble_eq_true rfl) rfl (dkT_78 hT (by decide) hv1 (wm_zlt (by decide)) hv3 e2) (fun p3 T4 => ?_)
  refine wq_pop rfl (wq_notL p3) ?_
  refine wq_aload_n rfl rfl rfl ?_
  refine xm_getR (v := 36893488147419103291) (q := 56) rfl rfl (by decide) (by decide) (T4.r (k := 56) 3 58 rfl (by decide) rfl) ?_
  refine wq_iload_n rfl rfl hv1 ?_
  refine wq_iconst rfl rfl ?_
  refine wq_iaddZ rfl hv1 (wm_zlt (by decide)) (z := (v1 + 1) % 4294967296) rfl ?_
  obtain ⟨y5, e6, h⟩ := od_bindE h
  refine wd_virtN (q := 59) (y := y5) (as := [36893488147419103291, (v1 + 1) % 4294967296]) rfl rfl rfl (by decide) (Nat.le_of_ble_eq_true rfl) (Nat.le_of_ble_eq_true rfl) rfl (Nat.le_of_ble_eq_true rfl) rfl (dkT_162 T4 (Nat.mod_lt _ (by decide)) e6) (fun T8 => ?_)
  refine wq_aload_n rfl rfl rfl ?_
  refine wq_bipush rfl rfl ?_
  obtain ⟨F9, e10, h⟩ := od_upE h
  refine xmE_put (q := 56) rfl rfl (by decide) (by decide) (wq_I (by decide)) e10 ?_
  have T11 : xm_T F9 := wd_T e10 (T8.uf (k := 56) (f := 7) (c := 0) (v := 4294967294) rfl (by decide) rfl (show 4294967294 < 4294967296 from (by decide)))
  exact wq_ret rfl (wkON h T11)
/-- X4_given -/
def dk_139 (R : dk_Rt) (n : Nat) (F : wq_F) (a0 : Nat) (a1 : Nat) : Option (Nat × wq_F) :=
  if (F 57 4) = 4 then
    (dk_112 F 4 (ev_oL2i (F 57 8)) (F 57 6) 1).bind fun y24 =>
    (dk_77 n y24.2).bind fun y28 =>
    dk_139_93 R n y28.2 a0 (F 57 6)
  else
    if (F 57 4) = 53 then
      (R 151 [a1] F).bind fun y20 =>
      dk_139_93 R n y20.2 a0 (F 57 6)
    else
      (dk_110 n F 51).bind fun y3 =>
      if (y3.2 57 4) = 52 then
        (dk_110 n y3.2 52).bind fun y8 =>
        dk_139_93 R n y8.2 a0 (F 57 6)
      else
        (R 144 [(a1 + 1) % 4294967296] y3.2).bind fun y12 =>
        (dk_110 n y12.2 52).bind fun y16 =>
        dk_139_93 R n y16.2 a0 (F 57 6)
theorem dkT_139 {d n : Nat} {R : dk_Rt} (hR : dk_spec (d + 12) R) {F : wq_F} (hT : xm_T F) {a0 : Nat} (ha0 : a0 < 4294967296) {a1 : Nat} (ha1 : a1 < 4294967296) {x : Nat × wq_F} (h : dk_139 R n F a0 a1 = some x) : mq (d + 12 + 1) 139 [36893488147419103288, a0, a1] xm_sh F (wkN xm_T xm_sh x) := by
  have e : ev_ent [36893488147419103288, a0, a1] = [36893488147419103288, a0, a1] := by
    show 36893488147419103288 :: ev_ent [a0, a1] = _
    rw [wm_entI ha0, wm_entI ha1]
    rfl
  refine mq_of (maxL := 4) (rt := none) (code := (ev_un al_mX4_given.2.2.2.2)) (L := [36893488147419103288, a0, a1, 73786976294838206464]) rfl (by rw [e]; exact Nat.le_of_ble_eq_true rfl) (by rw [e]; rfl) ?_
  unfold dk_139 at h
  refine wq_aload_n rfl rfl rfl ?_
  refine xm_getR (v := 36893488147419103289) (q := 56) rfl rfl (by decide) (by decide) (hT.r (k := 56) 0 56 rfl (by decide) rfl) ?_
  refine xm_getI (q := 57) rfl rfl (by decide) (by decide) ?_
  refine wq_istore_n rfl (hT.i (k := 57) 6 rfl (by decide) rfl) (Nat.le_of_ble_eq_true rfl) (Or.inr ⟨_, rfl, (wq_notL ha1)⟩) (L' := [36893488147419103288, a0, a1, F 57 6]) rfl ?_
  refine wq_aload_n rfl rfl rfl ?_
  refine xm_getR (v := 36893488147419103289) (q := 56) rfl rfl (by decide) (by decide) (hT.r (k := 56) 0 56 rfl (by decide) rfl) ?_
  refine xm_getI (q := 57) rfl rfl (by decide) (by decide) ?_
  refine wq_iconst rfl rfl ?_
  refine wq_ic_ne rfl rfl (hT.i (k := 57) 4 rfl (by decide) rfl) (by decide) (fun h1 => ?_) (fun h1 => ?_)
  · replace h := od_neg h h1
    refine wq_aload_n rfl rfl rfl ?_
    refine xm_getR (v := 36893488147419103289) (q := 56) rfl rfl (by decide) (by decide) (hT.r (k := 56) 0 56 rfl (by decide) rfl) ?_
    refine xm_getI (q := 57) rfl rfl (by decide) (by decide) ?_
    refine wq_bipush rfl rfl ?_
    refine wq_ic_ne rfl rfl (hT.i (k := 57) 4 rfl (by decide) rfl) (by decide) (fun h2 => ?_) (fun h2 => ?_)
    · replace h := od_neg h h2
      refine wq_aload_n rfl rfl rfl ?_
      refine wq_bipush rfl rfl ?_
      obtain ⟨y3, e4, h⟩ := od_bindE h
      refine wd_virtN (q := 56) (y := y3) (as := [36893488147419103288, 51]) rfl rfl rfl (by decide) (Nat.le_of_ble_eq_true rfl) (Nat.le_of_ble_eq_true rfl) rfl (Nat.le_of_ble_eq_true rfl) rfl (dkT_110 hT (by decide) e4) (fun T6 => ?_)
      refine wq_aload_n rfl rfl rfl ?_
      refine xm_getR (v := 36893488147419103289) (q := 56) rfl rfl (by decide) (by decide) (T6.r (k := 56) 0 56 rfl (by decide) rfl) ?_
      refine xm_getI (q := 57) rfl rfl (by decide) (by decide) ?_
      refine wq_bipush rfl rfl ?_
      refine wq_ic_eq rfl rfl (T6.i (k := 57) 4 rfl (by decide) rfl) (by decide) (fun h7 => ?_) (fun h7 => ?_)
      · replace h := od_pos h h7
        refine wq_aload_n rfl rfl rfl ?_
        refine wq_bipush rfl rfl ?_
        obtain ⟨y8, e9, h⟩ := od_bindE h
        refine wd_virtN (q := 56) (y := y8) (as := [36893488147419103288, 52]) rfl rfl rfl (by decide) (Nat.le_of_ble_eq_true rfl) (Nat.le_of_ble_eq_true rfl) rfl (Nat.le_of_ble_eq_true rfl) rfl (dkT_110 T6 (by decide) e9) (fun T11 => ?_)
        exact dk_139_93T hR T11 ha0 (hT.i (k := 57) 6 rfl (by decide) rfl) (wq_notL ha1) h
      · replace h := od_neg h h7
        refine wq_aload_n rfl rfl rfl ?_
        refine wq_iload_n rfl rfl ha1 ?_
        refine wq_iconst rfl rfl ?_
        refine wq_iaddZ rfl ha1 (wm_zlt (by decide)) (z := (a1 + 1) % 4294967296) rfl ?_
        obtain ⟨y12, e13, h⟩ := od_bindE h
        refine wd_virtI (q := 56) (y := y12) (as := [36893488147419103288, (a1 + 1) % 4294967296]) rfl rfl rfl (by decide) (Nat.le_of_ble_eq_true rfl) (Nat.le_of_ble_eq_true rfl) rfl (Nat.le_of_ble_eq_true rfl) rfl (dk_s144 hR T6 (Nat.mod_lt _ (by decide)) e13) (fun p14 T15 => ?_)
        refine wq_pop rfl (wq_notL p14) ?_
        refine wq_aload_n rfl rfl rfl ?_
        refine wq_bipush rfl rfl ?_
        obtain ⟨y16, e17, h⟩ := od_bindE h
        refine wd_virtN (q := 56) (y := y16) (as := [36893488147419103288, 52]) rfl rfl rfl (by decide) (Nat.le_of_ble_eq_true rfl) (Nat.le_of_ble_eq_true rfl) rfl (Nat.le_of_ble_eq_true rfl) rfl (dkT_110 T15 (by decide) e17) (fun T19 => ?_)
        exact dk_139_93T hR T19 ha0 (hT.i (k := 57) 6 rfl (by decide) rfl) (wq_notL ha1) h
    · replace h := od_pos h h2
      refine wq_aload_n rfl rfl rfl ?_
      refine wq_iload_n rfl rfl ha1 ?_
      obtain ⟨y20, e21, h⟩ := od_bindE h
      refine wd_virtN (q := 56) (y := y20) (as := [36893488147419103288, a1]) rfl rfl rfl (by decide) (Nat.le_of_ble_eq_true rfl) (Nat.le_of_ble_eq_true rfl) rfl (Nat.le_of_ble_eq_true rfl) rfl (dk_s151 hR hT ha1 e21) (fun T23 => ?_)
      refine wq_goto rfl rfl ?_
      exact dk_139_93T hR T23 ha0 (hT.i (k := 57) 6 rfl (by decide) rfl) (wq_notL ha1) h
  · replace h := od_pos h h1
    refine wq_aload_n rfl rfl rfl ?_
    refine wq_iconst rfl rfl ?_
    refine wq_aload_n rfl rfl rfl ?_
    refine xm_getR (v := 36893488147419103289) (q := 56) rfl rfl (by decide) (by decide) (hT.r (k := 56) 0 56 rfl (by decide) rfl) ?_
    refine xm_getI (q := 57) rfl rfl (by decide) (by decide) ?_
    refine wq_l2i rfl (hT.l (k := 57) 8 rfl (by decide) rfl) ?_
    refine wq_iload_n rfl rfl (hT.i (k := 57) 6 rfl (by decide) rfl) ?_
    refine wq_iconst rfl rfl ?_
    obtain ⟨y24, e25, h⟩ := od_bindE h
    refine wd_virtN (q := 56) (y := y24) (as := [36893488147419103288, 4, ev_oL2i (F 57 8), F 57 6, 1]) rfl rfl rfl (by decide) (Nat.le_of_ble_eq_true rfl) (Nat.le_of_ble_eq_true rfl) rfl (Nat.le_of_ble_eq_true rfl) rfl (dkT_112 hT (by decide) (Nat.mod_lt _ (by decide)) (hT.i (k := 57) 6 rfl (by decide) rfl) (wm_zlt (by decide)) e25) (fun T27 => ?_)
    refine wq_aload_n rfl rfl rfl ?_
    obtain ⟨y28, e29, h⟩ := od_bindE h
    refine wd_virtN (q := 56) (y := y28) (as := [36893488147419103288]) rfl rfl rfl (by decide) (Nat.le_of_ble_eq_true rfl) (Nat.le_of_ble_eq_true rfl) rfl (Nat.le_of_ble_eq_true rfl) rfl (dkT_77 T27 e29) (fun T31 => ?_)
    refine wq_goto rfl rfl ?_
    exact dk_139_93T hR T31 ha0 (hT.i (k := 57) 6 rfl (by decide) rfl) (wq_notL ha1) h
/-- X4_chainStatement -/
def dk_140 (R : dk_Rt) (n : Nat) (F : wq_F) (a0 : Nat) : Option (Nat × wq_F) :=
  (dk_84 F).bind fun y1 =>
  (R 137 [a0] y1.2).bind fun y5 =>
  if (y5.2 56 7) = 4294967294 then
    (dk_158 y5.2 0).bind fun y14 =>
    (dk_162 y14.2 y1.1).bind fun y18 =>
    some (0, y18.2)
  else
    (R 141 [a0, y1.1] y5.2).bind fun y10 =>
    some (0, y10.2)
theorem dkT_140 {d n : Nat} {R : dk_Rt} (hR : dk_spec (d + 12) R) {F : wq_F} (hT : xm_T F) {a0 : Nat} (ha0 : a0 < 4294967296) {x : Nat × wq_F} (h : dk_140 R n F a0 = some x) : mq (d + 12 + 1) 140 [36893488147419103288, a0] xm_sh F (wkN xm_T xm_sh x) := by
  have e : ev_ent [36893488147419103288, a0] = [36893488147419103288, a0] := by
    show 36893488147419103288 :: ev_ent [a0] = _
    rw [wm_entI ha0]
    rfl
  refine mq_of (maxL := 3) (rt := none) (code := (ev_un al_mX4_chainStatement.2.2.2.2)) (L := [36893488147419103288, a0, 73786976294838206464]) rfl (by rw [e]; exact Nat.le_of_ble_eq_true rfl) (by rw [e]; rfl) ?_
  unfold dk_140 at h
  refine wq_aload_n rfl rfl rfl ?_
  refine xm_getR (v := 36893488147419103291) (q := 56) rfl rfl (by decide) (by decide) (hT.r (k := 56) 3 58 rfl (by decide) rfl) ?_
  obtain ⟨y1, e2, h⟩ := od_bindE h
  refine wd_virtI (q := 59) (y := y1) (as := [36893488147419103291]) rfl rfl rfl (by decide) (Nat.le_of_ble_eq_true rfl) (Nat.le_of_ble_eq_true rfl) rfl (Nat.le_of_ble_eq_true rfl) rfl (dkT_84 hT e2) (fun p3 T4 => ?_)
  refine wq_istore_n rfl p3 (Nat.le_of_ble_eq_true rfl) (Or.inr ⟨_, rfl, (wq_notL ha0)⟩) (L' := [36893488147419103288, a0, y1.1]) rfl ?_
  refine wq_aload_n rfl rfl rfl ?_
  refine wq_iload_n rfl rfl ha0 ?_
  obtain ⟨y5, e6, h⟩ := od_bindE h
  refine wd_virtN (q := 56) (y := y5) (as := [36893488147419103288, a0]) rfl rfl rfl (by decide) (Nat.le_of_ble_eq_true rfl) (Nat.le_of_ble_eq_true rfl) rfl (Nat.le_of_ble_eq_true rfl) rfl (dk_s137 hR T4 ha0 e6) (fun T8 => ?_)
  refine wq_aload_n rfl rfl rfl ?_
  refine xm_getI (q := 56) rfl rfl (by decide) (by decide) ?_
  refine wq_bipush rfl rfl ?_
  refine wq_ic_ne rfl rfl (T8.i (k := 56) 7 rfl (by decide) rfl) (by decide) (fun h9 => ?_) (fun h9 => ?_)
  · replace h := od_neg h h9
    refine wq_aload_n rfl rfl rfl ?_
    refine wq_iload_n rfl rfl ha0 ?_
    refine wq_iload_n rfl rfl p3 ?_
    obtain ⟨y10, e11, h⟩ := od_bindE h
    refine wd_virtN (q := 56) (y := y10) (as := [36893488147419103288, a0, y1.1]) rfl rfl rfl (by decide) (Nat.le_of_ble_eq_true rfl) (Nat.le_of_ble_eq_true rfl) rfl (Nat.le_of_ble_eq_true rfl) rfl (dk_s141 hR T8 ha0 p3 e11) (fun T13 => ?_)
    exact wq_ret rfl (wkON h T13)
  · replace h := od_pos h h9
    refine wq_aload_n rfl rfl rfl ?_
    refine xm_getR (v := 36893488147419103243) (q := 56) rfl rfl (by decide) (by decide) (T8.r (k := 56) 1 10 rfl (by decide) rfl) ?_
    refine wq_iconst rfl rfl ?_
    obtain ⟨y14, e15, h⟩ := od_bindE h
    refine wd_virtN (q := 11) (y := y14) (as := [36893488147419103243, 0]) rfl rfl rfl (by decide) (Nat.le_of_ble_eq_true rfl) (Nat.le_of_ble_eq_true rfl) rfl (Nat.le_of_ble_eq_true rfl) rfl (dkT_158 T8 (wm_zlt (by decide)) e15) (fun T17 => ?_)
    refine wq_aload_n rfl rfl rfl ?_
    refine xm_getR (v := 36893488147419103291) (q := 56) rfl rfl (by decide) (by decide) (T17.r (k := 56) 3 58 rfl (by decide) rfl) ?_
    refine wq_iload_n rfl rfl p3 ?_
    obtain ⟨y18, e19, h⟩ := od_bindE h
    refine wd_virtN (q := 59) (y := y18) (as := [36893488147419103291, y1.1]) rfl rfl rfl (by decide) (Nat.le_of_ble_eq_true rfl) (Nat.le_of_ble_eq_true rfl) rfl (Nat.le_of_ble_eq_true rfl) rfl (dkT_162 T17 p3 e19) (fun T21 => ?_)
    refine wq_goto rfl rfl ?_
    exact wq_ret rfl (wkON h T21)
def dk_141_155b (R : dk_Rt) (n : Nat) (r155 : wq_F → Nat → Nat → Nat → Option (Nat × wq_F)) (F : wq_F) (v2 : Nat) (v3 : Nat) (v7 : Nat) : Option (Nat × wq_F) :=
  if ev_s v7 < ev_s v3 then
    od_up F 56 11 v3 fun F2 =>
    (dk_132 F2 v2).bind fun y5 =>
    some (0, y5.2)
  else
    od_g (v7 < 1320) <|
    od_g ((v7 + 1) % 4294967296 < 1320) <|
    od_g ((v7 + 2) % 4294967296 < 1320) <|
    (dk_143 F (F 58 v7) (F 58 ((v7 + 1) % 4294967296)) (F 58 ((v7 + 2) % 4294967296))).bind fun y12 =>
    od_let ((v7 + 4294967293) % 4294967296) fun y16 =>
    r155 y12.2 v2 v3 y16
theorem dk_141_155bT {d n : Nat} {R : dk_Rt} (hR : dk_spec (d + 12) R) {r155 : wq_F → Nat → Nat → Nat → Option (Nat × wq_F)} (hr155 : ∀ ⦃u1 : Nat⦄ ⦃u4 : Nat⦄ ⦃u5 : Nat⦄ ⦃u6 : Nat⦄ ⦃F : wq_F⦄ (hT : xm_T F) ⦃v2 : Nat⦄ (hv2 : v2 < 4294967296) ⦃v3 : Nat⦄ (hv3 : v3 < 4294967296) ⦃v7 : Nat⦄ (hv7 : v7 < 4294967296) (hu1 : ev_isL u1 = false) (hu4 : ev_isL u4 = false) (hu5 : ev_isL u5 = false) (hu6 : ev_isL u6 = false) ⦃x : Nat × wq_F⦄ (h : r155 F v2 v3 v7 = some x), wq (wq_cf (d + 12)) (ev_un al_mX4_assignment.2.2.2.2) none 155 [36893488147419103288, u1, v2, v3, u4, u5, u6, v7] [] xm_sh F 0 0 (wkN xm_T xm_sh x)) : ∀ ⦃u1 : Nat⦄ ⦃u4 : Nat⦄ ⦃u5 : Nat⦄ ⦃u6 : Nat⦄ ⦃F : wq_F⦄ (hT : xm_T F) ⦃v2 : Nat⦄ (hv2 : v2 < 4294967296) ⦃v3 : Nat⦄ (hv3 : v3 < 4294967296) ⦃v7 : Nat⦄ (hv7 : v7 < 4294967296) (hu1 : ev_isL u1 = false) (hu4 : ev_isL u4 = false) (hu5 : ev_isL u5 = false) (hu6 : ev_isL u6 = false) ⦃x : Nat × wq_F⦄ (h : dk_141_155b R n r155 F v2 v3 v7 = some x), wq (wq_cf (d + 12)) (ev_un al_mX4_assignment.2.2.2.2) none 155 [36893488147419103288, u1, v2, v3, u4, u5, u6, v7] [] xm_sh F 0 0 (wkN xm_T xm_sh x) := by
  intro u1 u4 u5 u6 F hT v2 hv2 v3 hv3 v7 hv7 hu1 hu4 hu5 hu6 x h
  unfold dk_141_155b at h
  refine wq_iload rfl rfl hv7 ?_
  refine wq_iload_n rfl rfl hv3 ?_
  refine wq_ic_lt rfl rfl hv7 hv3 (fun h1 => ?_) (fun h1 => ?_)
  · replace h := od_pos h h1
    refine wq_aload_n rfl rfl rfl ?_
    refine wq_iload_n rfl rfl hv3 ?_
    obtain ⟨F2, e3, h⟩ := od_upE h
    refine xmE_put (q := 56) rfl rfl (by decide) (by decide) (wq_I hv3) e3 ?_
    have T4 : xm_T F2 := wd_T e3 (hT.uf (k := 56) (f := 11) (c := 0) (v := v3) rfl (by decide) rfl (show v3 < 4294967296 from hv3))
    refine wq_aload_n rfl rfl rfl ?_
    refine wq_iload_n rfl rfl hv2 ?_
    obtain ⟨y5, e6, h⟩ := od_bindE h
    refine wd_virtN (q := 56) (y := y5) (as := [36893488147419103288, v2]) rfl rfl rfl (by decide) (Nat.le_of_ble_eq_true rfl) (Nat.le_of_ble_eq_true rfl) rfl (Nat.le_of_ble_eq_true rfl) rfl (dkT_132 T4 hv2 e6) (fun T8 => ?_)
    exact wq_ret rfl (wkON h T8)
  · replace h := od_neg h (Nat.not_lt.mpr h1)
    refine wq_aload_n rfl rfl rfl ?_
    refine wq_aload_n rfl rfl rfl ?_
    refine xm_getR (v := 36893488147419103290) (q := 56) rfl rfl (by decide) (by decide) (hT.r (k := 56) 10 57 rfl (by decide) rfl) ?_
    refine wq_iload rfl rfl hv7 ?_
    obtain ⟨g9, h⟩ := od_gE h
    refine wq_iaload (q := 58) (n := 1320) rfl rfl (by decide) g9 (by decide) ?_
    refine wq_aload_n rfl rfl rfl ?_
    refine xm_getR (v := 36893488147419103290) (q := 56) rfl rfl (by decide) (by decide) (hT.r (k := 56) 10 57 rfl (by decide) rfl) ?_
    refine wq_iload rfl rfl hv7 ?_
    refine wq_iconst rfl rfl ?_
    refine wq_iaddZ rfl hv7 (wm_zlt (by decide)) (z := (v7 + 1) % 4294967296) rfl ?_
    obtain ⟨g10, h⟩ := od_gE h
    refine wq_iaload (q := 58) (n := 1320) rfl rfl (by decide) g10 (by decide) ?_
    refine wq_aload_n rfl rfl rfl ?_
    refine xm_getR (v := 36893488147419103290) (q := 56) rfl rfl (by decide) (by decide) (hT.r (k := 56) 10 57 rfl (by decide) rfl) ?_
    refine wq_iload rfl rfl hv7 ?_
    refine wq_iconst rfl rfl ?_
    refine wq_iaddZ rfl hv7 (by decide) (z := (v7 + 2) % 4294967296) rfl ?_
    obtain ⟨g11, h⟩ := od_gE h
    refine wq_iaload (q := 58) (n := 1320) rfl rfl (by decide) g11 (by decide) ?_
    obtain ⟨y12, e13, h⟩ := od_bindE h
    refine wd_virtN (q := 56) (y := y12) (as := [36893488147419103288, F 58 v7, F 58 ((v7 + 1) % 4294967296), F 58 ((v7 + 2) % 4294967296)]) rfl rfl rfl (by decide) (Nat.le_of_ble_eq_true rfl) (Nat.le_of_ble_eq_true rfl) rfl (Nat.le_of_ble_eq_true rfl) rfl (dkT_143 hT (hT.ai (k := 58) rfl g9) (hT.ai (k := 58) rfl g10) (hT.ai (k := 58) rfl g11) e13) (fun T15 => ?_)
    obtain ⟨y16, e17, h⟩ := od_letE h
    have p18 : y16 < 4294967296 := wd_lt e17 (Nat.mod_lt _ (by decide))
    refine wq_iincZ rfl rfl hv7 (Or.inr ⟨_, rfl, hu6⟩) rfl (z := y16) e17.symm (L' := [36893488147419103288, u1, v2, v3, u4, u5, u6, y16]) rfl ?_
    refine wq_goto rfl rfl ?_
    exact hr155 T15 hv2 hv3 p18 hu1 hu4 hu5 hu6 h
def dk_141_155 (R : dk_Rt) (n : Nat) : Nat → wq_F → Nat → Nat → Nat → Option (Nat × wq_F)
  | 0 => fun _ _ _ _ => none
  | g + 1 => dk_141_155b R n (dk_141_155 R n g)
theorem dk_141_155T {d n : Nat} {R : dk_Rt} (hR : dk_spec (d + 12) R) : ∀ g : Nat, ∀ ⦃u1 : Nat⦄ ⦃u4 : Nat⦄ ⦃u5 : Nat⦄ ⦃u6 : Nat⦄ ⦃F : wq_F⦄ (hT : xm_T F) ⦃v2 : Nat⦄ (hv2 : v2 < 4294967296) ⦃v3 : Nat⦄ (hv3 : v3 < 4294967296) ⦃v7 : Nat⦄ (hv7 : v7 < 4294967296) (hu1 : ev_isL u1 = false) (hu4 : ev_isL u4 = false) (hu5 : ev_isL u5 = false) (hu6 : ev_isL u6 = false) ⦃x : Nat × wq_F⦄ (h : dk_141_155 R n g F v2 v3 v7 = some x), wq (wq_cf (d + 12)) (ev_un al_mX4_assignment.2.2.2.2) none 155 [36893488147419103288, u1, v2, v3, u4, u5, u6, v7] [] xm_sh F 0 0 (wkN xm_T xm_sh x)
  | 0 => by
    intro u1 u4 u5 u6 F hT v2 hv2 v3 hv3 v7 hv7 hu1 hu4 hu5 hu6 x h
    cases h
  | g + 1 => dk_141_155bT hR (dk_141_155T hR g)
def dk_141_96 (R : dk_Rt) (n : Nat) (F : wq_F) (v1 : Nat) (v2 : Nat) (v3 : Nat) : Option (Nat × wq_F) :=
  od_let (((F 56 11) + (4294967296 - v3)) % 4294967296) fun y1 =>
  (dk_84 F).bind fun y4 =>
  (dk_110 n y4.2 49).bind fun y8 =>
  (R 144 [(v1 + 1) % 4294967296] y8.2).bind fun y12 =>
  (dk_129 y12.2 y12.1 y4.1 (ev_oDiv y1 3) (F 57 6)).bind fun y16 =>
  od_let (((y16.2 56 11) + (4294967296 - 3)) % 4294967296) fun y20 =>
  dk_141_155 R n n y16.2 v2 v3 y20
theorem dk_141_96T {d n : Nat} {R : dk_Rt} (hR : dk_spec (d + 12) R) : ∀ ⦃u4 : Nat⦄ ⦃F : wq_F⦄ (hT : xm_T F) ⦃v1 : Nat⦄ (hv1 : v1 < 4294967296) ⦃v2 : Nat⦄ (hv2 : v2 < 4294967296) ⦃v3 : Nat⦄ (hv3 : v3 < 4294967296) (hu4 : ev_isL u4 = false) ⦃x : Nat × wq_F⦄ (h : dk_141_96 R n F v1 v2 v3 = some x), wq (wq_cf (d + 12)) (ev_un al_mX4_assignment.2.2.2.2) none 96 [36893488147419103288, v1, v2, v3, u4, 73786976294838206464, 73786976294838206464, 73786976294838206464] [] xm_sh F 0 0 (wkN xm_T xm_sh x) := by
  intro u4 F hT v1 hv1 v2 hv2 v3 hv3 hu4 x h
  unfold dk_141_96 at h
  refine wq_aload_n rfl rfl rfl ?_
  refine xm_getI (q := 56) rfl rfl (by decide) (by decide) ?_
  refine wq_iload_n rfl rfl hv3 ?_
  refine wq_isubZ rfl (hT.i (k := 56) 11 rfl (by decide) rfl) hv3 (z := ((F 56 11) + (4294967296 - v3)) % 4294967296) rfl ?_
  obtain ⟨y1, e2, h⟩ := od_letE h
  refine wq_top e2.symm ?_
  have p3 : y1 < 4294967296 := wd_lt e2 (Nat.mod_lt _ (by decide))
  refine wq_iconst rfl rfl ?_
  refine wq_idiv rfl p3 (by decide) (by decide) ?_
  refine wq_istore rfl (wd_idiv _ _) (Nat.le_of_ble_eq_true rfl) (Or.inr ⟨_, rfl, (wq_notL hv3)⟩) (L' := [36893488147419103288, v1, v2, v3, ev_oDiv y1 3, 73786976294838206464, 73786976294838206464, 73786976294838206464]) rfl ?_
  refine wq_aload_n rfl rfl rfl ?_
  refine xm_getR (v := 36893488147419103289) (q := 56) rfl rfl (by decide) (by decide) (hT.r (k := 56) 0 56 rfl (by decide) rfl) ?_
  refine xm_getI (q := 57) rfl rfl (by decide) (by decide) ?_
  refine wq_istore rfl (hT.i (k := 57) 6 rfl (by decide) rfl) (Nat.le_of_ble_eq_true rfl) (Or.inr ⟨_, rfl, (wq_notL (wd_idiv _ _))⟩) (L' := [36893488147419103288, v1, v2, v3, ev_oDiv y1 3, F 57 6, 73786976294838206464, 73786976294838206464]) rfl ?_
  refine wq_aload_n rfl rfl rfl ?_
  refine xm_getR (v := 36893488147419103291) (q := 56) rfl rfl (by decide) (by decide) (hT.r (k := 56) 3 58 rfl (by decide) rfl) ?_
  obtain ⟨y4, e5, h⟩ := od_bindE h
  refine wd_virtI (q := 59) (y := y4) (as := [36893488147419103291]) rfl rfl rfl (by decide) (Nat.le_of_ble_eq_true rfl) (Nat.le_of_ble_eq_true rfl) rfl (Nat.le_of_ble_eq_true rfl) rfl (dkT_84 hT e5) (fun p6 T7 => ?_)
  refine wq_istore rfl p6 (Nat.le_of_ble_eq_true rfl) (Or.inr ⟨_, rfl, (wq_notL (hT.i (k := 57) 6 rfl (by decide) rfl))⟩) (L' := [36893488147419103288, v1, v2, v3, ev_oDiv y1 3, F 57 6, y4.1, 73786976294838206464]) rfl ?_
  refine wq_aload_n rfl rfl rfl ?_
  refine wq_bipush rfl rfl ?_
  obtain ⟨y8, e9, h⟩ := od_bindE h
  refine wd_virtN (q := 56) (y := y8) (as := [36893488147419103288, 49]) rfl rfl rfl (by decide) (Nat.le_of_ble_eq_true rfl) (Nat.le_of_ble_eq_true rfl) rfl (Nat.le_of_ble_eq_true rfl) rfl (dkT_110 T7 (by decide) e9) (fun T11 => ?_)
  refine wq_aload_n rfl rfl rfl ?_
  refine wq_aload_n rfl rfl rfl ?_
  refine wq_iload_n rfl rfl hv1 ?_
  refine wq_iconst rfl rfl ?_
  refine wq_iaddZ rfl hv1 (wm_zlt (by decide)) (z := (v1 + 1) % 4294967296) rfl ?_
  obtain ⟨y12, e13, h⟩ := od_bindE h
  refine wd_virtI (q := 56) (y := y12) (as := [36893488147419103288, (v1 + 1) % 4294967296]) rfl rfl rfl (by decide) (Nat.le_of_ble_eq_true rfl) (Nat.le_of_ble_eq_true rfl) rfl (Nat.le_of_ble_eq_true rfl) rfl (dk_s144 hR T11 (Nat.mod_lt _ (by decide)) e13) (fun p14 T15 => ?_)
  refine wq_iload rfl rfl p6 ?_
  refine wq_iload rfl rfl (wd_idiv _ _) ?_
  refine wq_iload rfl rfl (hT.i (k := 57) 6 rfl (by decide) rfl) ?_
  obtain ⟨y16, e17, h⟩ := od_bindE h
  refine wd_virtN (q := 56) (y := y16) (as := [36893488147419103288, y12.1, y4.1, ev_oDiv y1 3, F 57 6]) rfl rfl rfl (by decide) (Nat.le_of_ble_eq_true rfl) (Nat.le_of_ble_eq_true rfl) rfl (Nat.le_of_ble_eq_true rfl) rfl (dkT_129 T15 p14 p6 (wd_idiv _ _) (hT.i (k := 57) 6 rfl (by decide) rfl) e17) (fun T19 => ?_)
  refine wq_aload_n rfl rfl rfl ?_
  refine xm_getI (q := 56) rfl rfl (by decide) (by decide) ?_
  refine wq_iconst rfl rfl ?_
  refine wq_isubZ rfl (T19.i (k := 56) 11 rfl (by decide) rfl) (by decide) (z := ((y16.2 56 11) + (4294967296 - 3)) % 4294967296) rfl ?_
  obtain ⟨y20, e21, h⟩ := od_letE h
  refine wq_top e21.symm ?_
  have p22 : y20 < 4294967296 := wd_lt e21 (Nat.mod_lt _ (by decide))
  refine wq_istore rfl p22 (Nat.le_of_ble_eq_true rfl) (Or.inr ⟨_, rfl, (wq_notL p6)⟩) (L' := [36893488147419103288, v1, v2, v3, ev_oDiv y1 3, F 57 6, y4.1, y20]) rfl ?_
  exact dk_141_155T hR n T19 hv2 hv3 p22 (wq_notL hv1) (wq_notL (wd_idiv _ _)) (wq_notL (hT.i (k := 57) 6 rfl (by decide) rfl)) (wq_notL p6) h
def dk_141_66 (R : dk_Rt) (n : Nat) (r12 : wq_F → Nat → Nat → Nat → Nat → Option (Nat × wq_F)) (F : wq_F) (v1 : Nat) (v2 : Nat) (v3 : Nat) (v4 : Nat) : Option (Nat × wq_F) :=
  if v4 = 20 then
    (dk_109 F 3).bind fun y13 =>
    od_let ((v4 + 1) % 4294967296) fun y17 =>
    r12 y13.2 v1 v2 v3 y17
  else
    (R 137 [v1] F).bind fun y2 =>
    (dk_142 y2.2).bind fun y6 =>
    od_let ((v4 + 1) % 4294967296) fun y10 =>
    r12 y6.2 v1 v2 v3 y10
theorem dk_141_66T {d n : Nat} {R : dk_Rt} (hR : dk_spec (d + 12) R) {r12 : wq_F → Nat → Nat → Nat → Nat → Option (Nat × wq_F)} (hr12 : ∀ ⦃F : wq_F⦄ (hT : xm_T F) ⦃v1 : Nat⦄ (hv1 : v1 < 4294967296) ⦃v2 : Nat⦄ (hv2 : v2 < 4294967296) ⦃v3 : Nat⦄ (hv3 : v3 < 4294967296) ⦃v4 : Nat⦄ (hv4 : v4 < 4294967296) ⦃x : Nat × wq_F⦄ (h : r12 F v1 v2 v3 v4 = some x), wq (wq_cf (d + 12)) (ev_un al_mX4_assignment.2.2.2.2) none 12 [36893488147419103288, v1, v2, v3, v4, 73786976294838206464, 73786976294838206464, 73786976294838206464] [] xm_sh F 0 0 (wkN xm_T xm_sh x)) : ∀ ⦃F : wq_F⦄ (hT : xm_T F) ⦃v1 : Nat⦄ (hv1 : v1 < 4294967296) ⦃v2 : Nat⦄ (hv2 : v2 < 4294967296) ⦃v3 : Nat⦄ (hv3 : v3 < 4294967296) ⦃v4 : Nat⦄ (hv4 : v4 < 4294967296) ⦃x : Nat × wq_F⦄ (h : dk_141_66 R n r12 F v1 v2 v3 v4 = some x), wq (wq_cf (d + 12)) (ev_un al_mX4_assignment.2.2.2.2) none 66 [36893488147419103288, v1, v2, v3, v4, 73786976294838206464, 73786976294838206464, 73786976294838206464] [] xm_sh F 0 0 (wkN xm_T xm_sh x) := by
  intro F hT v1 hv1 v2 hv2 v3 hv3 v4 hv4 x h
  unfold dk_141_66 at h
  refine wq_iload rfl rfl hv4 ?_
  refine wq_bipush rfl rfl ?_
  refine wq_ic_ne rfl rfl hv4 (by decide) (fun h1 => ?_) (fun h1 => ?_)
  · replace h := od_neg h h1
    refine wq_aload_n rfl rfl rfl ?_
    refine wq_iload_n rfl rfl hv1 ?_
    obtain ⟨y2, e3, h⟩ := od_bindE h
    refine wd_virtN (q := 56) (y := y2) (as := [36893488147419103288, v1]) rfl rfl rfl (by decide) (Nat.le_of_ble_eq_true rfl) (Nat.le_of_ble_eq_true rfl) rfl (Nat.le_of_ble_eq_true rfl) rfl (dk_s137 hR hT hv1 e3) (fun T5 => ?_)
    refine wq_aload_n rfl rfl rfl ?_
    obtain ⟨y6, e7, h⟩ := od_bindE h
    refine wd_virtN (q := 56) (y := y6) (as := [36893488147419103288]) rfl rfl rfl (by decide) (Nat.le_of_ble_eq_true rfl) (Nat.le_of_ble_eq_true rfl) rfl (Nat.le_of_ble_eq_true rfl) rfl (dkT_142 T5 e7) (fun T9 => ?_)
    obtain ⟨y10, e11, h⟩ := od_letE h
    have p12 : y10 < 4294967296 := wd_lt e11 (Nat.mod_lt _ (by decide))
    refine wq_iincZ rfl rfl hv4 (Or.inr ⟨_, rfl, (wq_notL hv3)⟩) rfl (z := y10) e11.symm (L' := [36893488147419103288, v1, v2, v3, y10, 73786976294838206464, 73786976294838206464, 73786976294838206464]) rfl ?_
    refine wq_goto rfl rfl ?_
    exact hr12 T9 hv1 hv2 hv3 p12 h
  · replace h := od_pos h h1
    refine wq_aload_n rfl rfl rfl ?_
    refine wq_iconst rfl rfl ?_
    obtain ⟨y13, e14, h⟩ := od_bindE h
    refine wd_virtN (q := 56) (y := y13) (as := [36893488147419103288, 3]) rfl rfl rfl (by decide) (Nat.le_of_ble_eq_true rfl) (Nat.le_of_ble_eq_true rfl) rfl (Nat.le_of_ble_eq_true rfl) rfl (dkT_109 hT (by decide) e14) (fun T16 => ?_)
    refine wq_goto rfl rfl ?_
    obtain ⟨y17, e18, h⟩ := od_letE h
    have p19 : y17 < 4294967296 := wd_lt e18 (Nat.mod_lt _ (by decide))
    refine wq_iincZ rfl rfl hv4 (Or.inr ⟨_, rfl, (wq_notL hv3)⟩) rfl (z := y17) e18.symm (L' := [36893488147419103288, v1, v2, v3, y17, 73786976294838206464, 73786976294838206464, 73786976294838206464]) rfl ?_
    refine wq_goto rfl rfl ?_
    exact hr12 T16 hv1 hv2 hv3 p19 h
def dk_141_12b (R : dk_Rt) (n : Nat) (r12 : wq_F → Nat → Nat → Nat → Nat → Option (Nat × wq_F)) (F : wq_F) (v1 : Nat) (v2 : Nat) (v3 : Nat) (v4 : Nat) : Option (Nat × wq_F) :=
  if ev_s 20 < ev_s v4 then
    dk_141_96 R n F v1 v2 v3
  else
    if (F 57 4) = 59 then
      (dk_77 n F).bind fun y3 =>
      if (y3.2 57 4) = 2 then
        dk_141_66 R n r12 y3.2 v1 v2 v3 v4
      else
        if (y3.2 57 4) = 51 then
          dk_141_66 R n r12 y3.2 v1 v2 v3 v4
        else
          (dk_109 y3.2 2).bind fun y9 =>
          od_let ((v4 + 1) % 4294967296) fun y13 =>
          r12 y9.2 v1 v2 v3 y13
    else
      dk_141_96 R n F v1 v2 v3
theorem dk_141_12bT {d n : Nat} {R : dk_Rt} (hR : dk_spec (d + 12) R) {r12 : wq_F → Nat → Nat → Nat → Nat → Option (Nat × wq_F)} (hr12 : ∀ ⦃F : wq_F⦄ (hT : xm_T F) ⦃v1 : Nat⦄ (hv1 : v1 < 4294967296) ⦃v2 : Nat⦄ (hv2 : v2 < 4294967296) ⦃v3 : Nat⦄ (hv3 : v3 < 4294967296) ⦃v4 : Nat⦄ (hv4 : v4 < 4294967296) ⦃x : Nat × wq_F⦄ (h : r12 F v1 v2 v3 v4 = some x), wq (wq_cf (d + 12)) (ev_un al_mX4_assignment.2.2.2.2) none 12 [36893488147419103288, v1, v2, v3, v4, 73786976294838206464, 73786976294838206464, 73786976294838206464] [] xm_sh F 0 0 (wkN xm_T xm_sh x)) : ∀ ⦃F : wq_F⦄ (hT : xm_T F) ⦃v1 : Nat⦄ (hv1 : v1 < 4294967296) ⦃v2 : Nat⦄ (hv2 : v2 < 4294967296) ⦃v3 : Nat⦄ (hv3 : v3 < 4294967296) ⦃v4 : Nat⦄ (hv4 : v4 < 4294967296) ⦃x : Nat × wq_F⦄ (h : dk_141_12b R n r12 F v1 v2 v3 v4 = some x), wq (wq_cf (d + 12)) (ev_un al_mX4_assignment.2.2.2.2) none 12 [36893488147419103288, v1, v2, v3, v4, 73786976294838206464, 73786976294838206464, 73786976294838206464] [] xm_sh F 0 0 (wkN xm_T xm_sh x) := by
  intro F hT v1 hv1 v2 hv2 v3 hv3 v4 hv4 x h
  unfold dk_141_12b at h
  refine wq_iload rfl rfl hv4 ?_
  refine wq_bipush rfl rfl ?_
  refine wq_ic_gt rfl rfl hv4 (by decide) (fun h1 => ?_) (fun h1 => ?_)
  · replace h := od_pos h h1
    exact dk_141_96T hR hT hv1 hv2 hv3 (wq_notL hv4) h
  · replace h := od_neg h (Nat.not_lt.mpr h1)
    refine wq_aload_n rfl rfl rfl ?_
    refine xm_getR (v := 36893488147419103289) (q := 56) rfl rfl (by decide) (by decide) (hT.r (k := 56) 0 56 rfl (by decide) rfl) ?_
    refine xm_getI (q := 57) rfl rfl (by decide) (by decide) ?_
    refine wq_bipush rfl rfl ?_
    refine wq_ic_ne rfl rfl (hT.i (k := 57) 4 rfl (by decide) rfl) (by decide) (fun h2 => ?_) (fun h2 => ?_)
    · replace h := od_neg h h2
      exact dk_141_96T hR hT hv1 hv2 hv3 (wq_notL hv4) h
    · replace h := od_pos h h2
      refine wq_aload_n rfl rfl rfl ?_
      obtain ⟨y3, e4, h⟩ := od_bindE h
      refine wd_virtN (q := 56) (y := y3) (as := [36893488147419103288]) rfl rfl rfl (by decide) (Nat.le_of_ble_eq_true rfl) (Nat.le_of_ble_eq_true rfl) rfl (Nat.le_of_ble_eq_true rfl) rfl (dkT_77 hT e4) (fun T6 => ?_)
      refine wq_aload_n rfl rfl rfl ?_
      refine xm_getR (v := 36893488147419103289) (q := 56) rfl rfl (by decide) (by decide) (T6.r (k := 56) 0 56 rfl (by decide) rfl) ?_
      refine xm_getI (q := 57) rfl rfl (by decide) (by decide) ?_
      refine wq_iconst rfl rfl ?_
      refine wq_ic_eq rfl rfl (T6.i (k := 57) 4 rfl (by decide) rfl) (by decide) (fun h7 => ?_) (fun h7 => ?_)
      · replace h := od_pos h h7
        exact dk_141_66T hR hr12 T6 hv1 hv2 hv3 hv4 h
      · replace h := od_neg h h7
        refine wq_aload_n rfl rfl rfl ?_
        refine xm_getR (v := 36893488147419103289) (q := 56) rfl rfl (by decide) (by decide) (T6.r (k := 56) 0 56 rfl (by decide) rfl) ?_
        refine xm_getI (q := 57) rfl rfl (by decide) (by decide) ?_
        refine wq_bipush rfl rfl ?_
        refine wq_ic_eq rfl rfl (T6.i (k := 57) 4 rfl (by decide) rfl) (by decide) (fun h8 => ?_) (fun h8 => ?_)
        · replace h := od_pos h h8
          exact dk_141_66T hR hr12 T6 hv1 hv2 hv3 hv4 h
        · replace h := od_neg h h8
          refine wq_aload_n rfl rfl rfl ?_
          refine wq_iconst rfl rfl ?_
          obtain ⟨y9, e10, h⟩ := od_bindE h
          refine wd_virtN (q := 56) (y := y9) (as := [36893488147419103288, 2]) rfl rfl rfl (by decide) (Nat.le_of_ble_eq_true rfl) (Nat.le_of_ble_eq_true rfl) rfl (Nat.le_of_ble_eq_true rfl) rfl (dkT_109 T6 (by decide) e10) (fun T12 => ?_)
          refine wq_goto rfl rfl ?_
          obtain ⟨y13, e14, h⟩ := od_letE h
          have p15 : y13 < 4294967296 := wd_lt e14 (Nat.mod_lt _ (by decide))
          refine wq_iincZ rfl rfl hv4 (Or.inr ⟨_, rfl, (wq_notL hv3)⟩) rfl (z := y13) e14.symm (L' := [36893488147419103288, v1, v2, v3, y13, 73786976294838206464, 73786976294838206464, 73786976294838206464]) rfl ?_
          refine wq_goto rfl rfl ?_
          exact hr12 T12 hv1 hv2 hv3 p15 h
def dk_141_12 (R : dk_Rt) (n : Nat) : Nat → wq_F → Nat → Nat → Nat → Nat → Option (Nat × wq_F)
  | 0 => fun _ _ _ _ _ => none
  | g + 1 => dk_141_12b R n (dk_141_12 R n g)
theorem dk_141_12T {d n : Nat} {R : dk_Rt} (hR : dk_spec (d + 12) R) : ∀ g : Nat, ∀ ⦃F : wq_F⦄ (hT : xm_T F) ⦃v1 : Nat⦄ (hv1 : v1 < 4294967296) ⦃v2 : Nat⦄ (hv2 : v2 < 4294967296) ⦃v3 : Nat⦄ (hv3 : v3 < 4294967296) ⦃v4 : Nat⦄ (hv4 : v4 < 4294967296) ⦃x : Nat × wq_F⦄ (h : dk_141_12 R n g F v1 v2 v3 v4 = some x), wq (wq_cf (d + 12)) (ev_un al_mX4_assignment.2.2.2.2) none 12 [36893488147419103288, v1, v2, v3, v4, 73786976294838206464, 73786976294838206464, 73786976294838206464] [] xm_sh F 0 0 (wkN xm_T xm_sh x)
  | 0 => by
    intro F hT v1 hv1 v2 hv2 v3 hv3 v4 hv4 x h
    cases h
  | g + 1 => dk_141_12bT hR (dk_141_12T hR g)
/-- X4_assignment -/
def dk_141 (R : dk_Rt) (n : Nat) (F : wq_F) (a0 : Nat) (a1 : Nat) : Option (Nat × wq_F) :=
  (dk_142 F).bind fun y1 =>
  dk_141_12 R n n y1.2 a0 a1 (F 56 11) 1
theorem dkT_141 {d n : Nat} {R : dk_Rt} (hR : dk_spec (d + 12) R) {F : wq_F} (hT : xm_T F) {a0 : Nat} (ha0 : a0 < 4294967296) {a1 : Nat} (ha1 : a1 < 4294967296) {x : Nat × wq_F} (h : dk_141 R n F a0 a1 = some x) : mq (d + 12 + 1) 141 [36893488147419103288, a0, a1] xm_sh F (wkN xm_T xm_sh x) := by
  have e : ev_ent [36893488147419103288, a0, a1] = [36893488147419103288, a0, a1] := by
    show 36893488147419103288 :: ev_ent [a0, a1] = _
    rw [wm_entI ha0, wm_entI ha1]
    rfl
  refine mq_of (maxL := 8) (rt := none) (code := (ev_un al_mX4_assignment.2.2.2.2)) (L := [36893488147419103288, a0, a1, 73786976294838206464, 73786976294838206464, 73786976294838206464, 73786976294838206464, 73786976294838206464]) rfl (by rw [e]; exact Nat.le_of_ble_eq_true rfl) (by rw [e]; rfl) ?_
  unfold dk_141 at h
  refine wq_aload_n rfl rfl rfl ?_
  refine xm_getI (q := 56) rfl rfl (by decide) (by decide) ?_
  refine wq_istore_n rfl (hT.i (k := 56) 11 rfl (by decide) rfl) (Nat.le_of_ble_eq_true rfl) (Or.inr ⟨_, rfl, (wq_notL ha1)⟩) (L' := [36893488147419103288, a0, a1, F 56 11, 73786976294838206464, 73786976294838206464, 73786976294838206464, 73786976294838206464]) rfl ?_
  refine wq_aload_n rfl rfl rfl ?_
  obtain ⟨y1, e2, h⟩ := od_bindE h
  refine wd_virtN (q := 56) (y := y1) (as := [36893488147419103288]) rfl rfl rfl (by decide) (Nat.le_of_ble_eq_true rfl) (Nat.le_of_ble_eq_true rfl) rfl (Nat.le_of_ble_eq_true rfl) rfl (dkT_142 hT e2) (fun T4 => ?_)
  refine wq_iconst rfl rfl ?_
  refine wq_istore rfl (wm_zlt (by decide)) (Nat.le_of_ble_eq_true rfl) (Or.inr ⟨_, rfl, (wq_notL (hT.i (k := 56) 11 rfl (by decide) rfl))⟩) (L' := [36893488147419103288, a0, a1, F 56 11, 1, 73786976294838206464, 73786976294838206464, 73786976294838206464]) rfl ?_
  exact dk_141_12T hR n T4 ha0 ha1 (hT.i (k := 56) 11 rfl (by decide) rfl) (wm_zlt (by decide)) h
def dk_144_70 (R : dk_Rt) (n : Nat) (F : wq_F) (v2 : Nat) (v3 : Nat) : Option (Nat × wq_F) :=
  if v2 = 0 then
    some (ev_oMul v3 2, F)
  else
    od_let (((ev_oMul v3 2) + 1) % 4294967296) fun y2 =>
    some (y2, F)
theorem dk_144_70T {d n : Nat} {R : dk_Rt} (hR : dk_spec (d + 12) R) : ∀ ⦃u1 : Nat⦄ ⦃F : wq_F⦄ (hT : xm_T F) ⦃v2 : Nat⦄ (hv2 : v2 < 2) ⦃v3 : Nat⦄ (hv3 : v3 < 4294967296) (hu1 : ev_isL u1 = false) ⦃x : Nat × wq_F⦄ (h : dk_144_70 R n F v2 v3 = some x), wq (wq_cf (d + 12)) (ev_un al_mX4_row.2.2.2.2) (some .int) 70 [36893488147419103288, u1, v2, v3] [] xm_sh F 0 0 (wkI xm_T xm_sh x) := by
  intro u1 F hT v2 hv2 v3 hv3 hu1 x h
  unfold dk_144_70 at h
  refine wq_iload_n rfl rfl (wm_zlt hv2) ?_
  refine wq_if_eq rfl rfl (wm_zlt hv2) (fun h1 => ?_) (fun h1 => ?_)
  · replace h := od_pos h h1
    refine wq_iload_n rfl rfl hv3 ?_
    refine wq_iconst rfl rfl ?_
    refine wq_imul rfl hv3 (by decide) ?_
    exact wq_iret rfl (Nat.mod_lt _ (by decide)) rfl (wkOI h hT (Nat.mod_lt _ (by decide)))
  · replace h := od_neg h h1
    refine wq_iload_n rfl rfl hv3 ?_
    refine wq_iconst rfl rfl ?_
    refine wq_imul rfl hv3 (by decide) ?_
    refine wq_iconst rfl rfl ?_
    refine wq_iaddZ rfl (Nat.mod_lt _ (by decide)) (wm_zlt (by decide)) (z := ((ev_oMul v3 2) + 1) % 4294967296) rfl ?_
    obtain ⟨y2, e3, h⟩ := od_letE h
    refine wq_top e3.symm ?_
    have p4 : y2 < 4294967296 := wd_lt e3 (Nat.mod_lt _ (by decide))
    refine wq_goto rfl rfl ?_
    exact wq_iret rfl p4 rfl (wkOI h hT p4)
def dk_144_30 (R : dk_Rt) (n : Nat) (r4 : wq_F → Nat → Nat → Option (Nat × wq_F)) (F : wq_F) (v1 : Nat) (v3 : Nat) : Option (Nat × wq_F) :=
  (R 148 [0, v1] F).bind fun y1 =>
  od_let ((v3 + 1) % 4294967296) fun y5 =>
  if ev_s 15 < ev_s y5 then
    if y1.1 = 0 then
      dk_144_70 R n y1.2 y1.1 y5
    else
      (dk_158 y1.2 4294967295).bind fun y10 =>
      dk_144_70 R n y10.2 y1.1 y5
  else
    if (y1.2 57 4) = 59 then
      r4 y1.2 v1 y5
    else
      if y1.1 = 0 then
        dk_144_70 R n y1.2 y1.1 y5
      else
        (dk_158 y1.2 4294967295).bind fun y16 =>
        dk_144_70 R n y16.2 y1.1 y5
theorem dk_144_30T {d n : Nat} {R : dk_Rt} (hR : dk_spec (d + 12) R) {r4 : wq_F → Nat → Nat → Option (Nat × wq_F)} (hr4 : ∀ ⦃u2 : Nat⦄ ⦃F : wq_F⦄ (hT : xm_T F) ⦃v1 : Nat⦄ (hv1 : v1 < 4294967296) ⦃v3 : Nat⦄ (hv3 : v3 < 4294967296) (hu2 : ev_isL u2 = false) ⦃x : Nat × wq_F⦄ (h : r4 F v1 v3 = some x), wq (wq_cf (d + 12)) (ev_un al_mX4_row.2.2.2.2) (some .int) 4 [36893488147419103288, v1, u2, v3] [] xm_sh F 0 0 (wkI xm_T xm_sh x)) : ∀ ⦃u2 : Nat⦄ ⦃F : wq_F⦄ (hT : xm_T F) ⦃v1 : Nat⦄ (hv1 : v1 < 4294967296) ⦃v3 : Nat⦄ (hv3 : v3 < 4294967296) (hu2 : ev_isL u2 = false) ⦃x : Nat × wq_F⦄ (h : dk_144_30 R n r4 F v1 v3 = some x), wq (wq_cf (d + 12)) (ev_un al_mX4_row.2.2.2.2) (some .int) 30 [36893488147419103288, v1, u2, v3] [] xm_sh F 0 0 (wkI xm_T xm_sh x) := by
  intro u2 F hT v1 hv1 v3 hv3 hu2 x h
  unfold dk_144_30 at h
  refine wq_aload_n rfl rfl rfl ?_
  refine wq_iconst rfl rfl ?_
  refine wq_iload_n rfl rfl hv1 ?_
  obtain ⟨y1, e2, h⟩ := od_bindE h
  refine wd_virtZ (q := 56) (y := y1) (as := [36893488147419103288, 0, v1]) rfl rfl rfl (by decide) (Nat.le_of_ble_eq_true rfl) (Nat.le_of_ble_eq_true rfl) rfl (Nat.le_of_ble_eq_true rfl) rfl (dk_s148 hR hT (wm_zlt (by decide)) hv1 e2) (fun p3 T4 => ?_)
  refine wq_istore_n rfl (wm_zlt p3) (Nat.le_of_ble_eq_true rfl) (Or.inr ⟨_, rfl, (wq_notL hv1)⟩) (L' := [36893488147419103288, v1, y1.1, v3]) rfl ?_
  obtain ⟨y5, e6, h⟩ := od_letE h
  have p7 : y5 < 4294967296 := wd_lt e6 (Nat.mod_lt _ (by decide))
  refine wq_iincZ rfl rfl hv3 (Or.inr ⟨_, rfl, (wq_notL (wm_zlt p3))⟩) rfl (z := y5) e6.symm (L' := [36893488147419103288, v1, y1.1, y5]) rfl ?_
  refine wq_iload_n rfl rfl p7 ?_
  refine wq_bipush rfl rfl ?_
  refine wq_ic_gt rfl rfl p7 (by decide) (fun h8 => ?_) (fun h8 => ?_)
  · replace h := od_pos h h8
    refine wq_iload_n rfl rfl (wm_zlt p3) ?_
    refine wq_if_eq rfl rfl (wm_zlt p3) (fun h9 => ?_) (fun h9 => ?_)
    · replace h := od_pos h h9
      exact dk_144_70T hR T4 p3 p7 (wq_notL hv1) h
    · replace h := od_neg h h9
      refine wq_aload_n rfl rfl rfl ?_
      refine xm_getR (v := 36893488147419103243) (q := 56) rfl rfl (by decide) (by decide) (T4.r (k := 56) 1 10 rfl (by decide) rfl) ?_
      refine wq_iconst rfl rfl ?_
      obtain ⟨y10, e11, h⟩ := od_bindE h
      refine wd_virtN (q := 11) (y := y10) (as := [36893488147419103243, 4294967295]) rfl rfl rfl (by decide) (Nat.le_of_ble_eq_true rfl) (Nat.le_of_ble_eq_true rfl) rfl (Nat.le_of_ble_eq_true rfl) rfl (dkT_158 T4 (by decide) e11) (fun T13 => ?_)
      exact dk_144_70T hR T13 p3 p7 (wq_notL hv1) h
  · replace h := od_neg h (Nat.not_lt.mpr h8)
    refine wq_aload_n rfl rfl rfl ?_
    refine xm_getR (v := 36893488147419103289) (q := 56) rfl rfl (by decide) (by decide) (T4.r (k := 56) 0 56 rfl (by decide) rfl) ?_
    refine xm_getI (q := 57) rfl rfl (by decide) (by decide) ?_
    refine wq_bipush rfl rfl ?_
    refine wq_ic_eq rfl rfl (T4.i (k := 57) 4 rfl (by decide) rfl) (by decide) (fun h14 => ?_) (fun h14 => ?_)
    · replace h := od_pos h h14
      exact hr4 T4 hv1 p7 (wq_notL (wm_zlt p3)) h
    · replace h := od_neg h h14
      refine wq_iload_n rfl rfl (wm_zlt p3) ?_
      refine wq_if_eq rfl rfl (wm_zlt p3) (fun h15 => ?_) (fun h15 => ?_)
      · replace h := od_pos h h15
        exact dk_144_70T hR T4 p3 p7 (wq_notL hv1) h
      · replace h := od_neg h h15
        refine wq_aload_n rfl rfl rfl ?_
        refine xm_getR (v := 36893488147419103243) (q := 56) rfl rfl (by decide) (by decide) (T4.r (k := 56) 1 10 rfl (by decide) rfl) ?_
        refine wq_iconst rfl rfl ?_
        obtain ⟨y16, e17, h⟩ := od_bindE h
        refine wd_virtN (q := 11) (y := y16) (as := [36893488147419103243, 4294967295]) rfl rfl rfl (by decide) (Nat.le_of_ble_eq_true rfl) (Nat.le_of_ble_eq_true rfl) rfl (Nat.le_of_ble_eq_true rfl) rfl (dkT_158 T4 (by decide) e17) (fun T19 => ?_)
        exact dk_144_70T hR T19 p3 p7 (wq_notL hv1) h
def dk_144_12 (R : dk_Rt) (n : Nat) (r4 : wq_F → Nat → Nat → Option (Nat × wq_F)) (F : wq_F) (v1 : Nat) (v3 : Nat) : Option (Nat × wq_F) :=
  if v3 = 15 then
    (dk_114 F).bind fun y2 =>
    if y2.1 = 0 then
      dk_144_30 R n r4 y2.2 v1 v3
    else
      (dk_109 y2.2 3).bind fun y7 =>
      dk_144_30 R n r4 y7.2 v1 v3
  else
    dk_144_30 R n r4 F v1 v3
theorem dk_144_12T {d n : Nat} {R : dk_Rt} (hR : dk_spec (d + 12) R) {r4 : wq_F → Nat → Nat → Option (Nat × wq_F)} (hr4 : ∀ ⦃u2 : Nat⦄ ⦃F : wq_F⦄ (hT : xm_T F) ⦃v1 : Nat⦄ (hv1 : v1 < 4294967296) ⦃v3 : Nat⦄ (hv3 : v3 < 4294967296) (hu2 : ev_isL u2 = false) ⦃x : Nat × wq_F⦄ (h : r4 F v1 v3 = some x), wq (wq_cf (d + 12)) (ev_un al_mX4_row.2.2.2.2) (some .int) 4 [36893488147419103288, v1, u2, v3] [] xm_sh F 0 0 (wkI xm_T xm_sh x)) : ∀ ⦃u2 : Nat⦄ ⦃F : wq_F⦄ (hT : xm_T F) ⦃v1 : Nat⦄ (hv1 : v1 < 4294967296) ⦃v3 : Nat⦄ (hv3 : v3 < 4294967296) (hu2 : ev_isL u2 = false) ⦃x : Nat × wq_F⦄ (h : dk_144_12 R n r4 F v1 v3 = some x), wq (wq_cf (d + 12)) (ev_un al_mX4_row.2.2.2.2) (some .int) 12 [36893488147419103288, v1, u2, v3] [] xm_sh F 0 0 (wkI xm_T xm_sh x) := by
  intro u2 F hT v1 hv1 v3 hv3 hu2 x h
  unfold dk_144_12 at h
  refine wq_iload_n rfl rfl hv3 ?_
  refine wq_bipush rfl rfl ?_
  refine wq_ic_ne rfl rfl hv3 (by decide) (fun h1 => ?_) (fun h1 => ?_)
  · replace h := od_neg h h1
    exact dk_144_30T hR hr4 hT hv1 hv3 hu2 h
  · replace h := od_pos h h1
    refine wq_aload_n rfl rfl rfl ?_
    obtain ⟨y2, e3, h⟩ := od_bindE h
    refine wd_virtZ (q := 56) (y := y2) (as := [36893488147419103288]) rfl rfl rfl (by decide) (Nat.le_of_ble_eq_true rfl) (Nat.le_of_ble_eq_true rfl) rfl (Nat.le_of_ble_eq_true rfl) rfl (dkT_114 hT e3) (fun p4 T5 => ?_)
    refine wq_if_eq rfl rfl (wm_zlt p4) (fun h6 => ?_) (fun h6 => ?_)
    · replace h := od_pos h h6
      exact dk_144_30T hR hr4 T5 hv1 hv3 hu2 h
    · replace h := od_neg h h6
      refine wq_aload_n rfl rfl rfl ?_
      refine wq_iconst rfl rfl ?_
      obtain ⟨y7, e8, h⟩ := od_bindE h
      refine wd_virtN (q := 56) (y := y7) (as := [36893488147419103288, 3]) rfl rfl rfl (by decide) (Nat.le_of_ble_eq_true rfl) (Nat.le_of_ble_eq_true rfl) rfl (Nat.le_of_ble_eq_true rfl) rfl (dkT_109 T5 (by decide) e8) (fun T10 => ?_)
      exact dk_144_30T hR hr4 T10 hv1 hv3 hu2 h
def dk_144_4b (R : dk_Rt) (n : Nat) (r4 : wq_F → Nat → Nat → Option (Nat × wq_F)) (F : wq_F) (v1 : Nat) (v3 : Nat) : Option (Nat × wq_F) :=
  if 0 < v3 ∧ v3 < 2147483648 then
    (dk_77 n F).bind fun y2 =>
    dk_144_12 R n r4 y2.2 v1 v3
  else
    dk_144_12 R n r4 F v1 v3
theorem dk_144_4bT {d n : Nat} {R : dk_Rt} (hR : dk_spec (d + 12) R) {r4 : wq_F → Nat → Nat → Option (Nat × wq_F)} (hr4 : ∀ ⦃u2 : Nat⦄ ⦃F : wq_F⦄ (hT : xm_T F) ⦃v1 : Nat⦄ (hv1 : v1 < 4294967296) ⦃v3 : Nat⦄ (hv3 : v3 < 4294967296) (hu2 : ev_isL u2 = false) ⦃x : Nat × wq_F⦄ (h : r4 F v1 v3 = some x), wq (wq_cf (d + 12)) (ev_un al_mX4_row.2.2.2.2) (some .int) 4 [36893488147419103288, v1, u2, v3] [] xm_sh F 0 0 (wkI xm_T xm_sh x)) : ∀ ⦃u2 : Nat⦄ ⦃F : wq_F⦄ (hT : xm_T F) ⦃v1 : Nat⦄ (hv1 : v1 < 4294967296) ⦃v3 : Nat⦄ (hv3 : v3 < 4294967296) (hu2 : ev_isL u2 = false) ⦃x : Nat × wq_F⦄ (h : dk_144_4b R n r4 F v1 v3 = some x), wq (wq_cf (d + 12)) (ev_un al_mX4_row.2.2.2.2) (some .int) 4 [36893488147419103288, v1, u2, v3] [] xm_sh F 0 0 (wkI xm_T xm_sh x) := by
  intro u2 F hT v1 hv1 v3 hv3 hu2 x h
  unfold dk_144_4b at h
  refine wq_iload_n rfl rfl hv3 ?_
  refine wq_if_le rfl rfl hv3 (fun h1 => ?_) (fun h1 => ?_)
  · replace h := od_neg h h1
    exact dk_144_12T hR hr4 hT hv1 hv3 hu2 h
  · replace h := od_pos h h1
    refine wq_aload_n rfl rfl rfl ?_
    obtain ⟨y2, e3, h⟩ := od_bindE h
    refine wd_virtN (q := 56) (y := y2) (as := [36893488147419103288]) rfl rfl rfl (by decide) (Nat.le_of_ble_eq_true rfl) (Nat.le_of_ble_eq_true rfl) rfl (Nat.le_of_ble_eq_true rfl) rfl (dkT_77 hT e3) (fun T5 => ?_)
    exact dk_144_12T hR hr4 T5 hv1 hv3 hu2 h
def dk_144_4 (R : dk_Rt) (n : Nat) : Nat → wq_F → Nat → Nat → Option (Nat × wq_F)
  | 0 => fun _ _ _ => none
  | g + 1 => dk_144_4b R n (dk_144_4 R n g)
theorem dk_144_4T {d n : Nat} {R : dk_Rt} (hR : dk_spec (d + 12) R) : ∀ g : Nat, ∀ ⦃u2 : Nat⦄ ⦃F : wq_F⦄ (hT : xm_T F) ⦃v1 : Nat⦄ (hv1 : v1 < 4294967296) ⦃v3 : Nat⦄ (hv3 : v3 < 4294967296) (hu2 : ev_isL u2 = false) ⦃x : Nat × wq_F⦄ (h : dk_144_4 R n g F v1 v3 = some x), wq (wq_cf (d + 12)) (ev_un al_mX4_row.2.2.2.2) (some .int) 4 [36893488147419103288, v1, u2, v3] [] xm_sh F 0 0 (wkI xm_T xm_sh x)
  | 0 => by
    intro u2 F hT v1 hv1 v3 hv3 hu2 x h
    cases h
  | g + 1 => dk_144_4bT hR (dk_144_4T hR g)
/-- X4_row -/
def dk_144 (R : dk_Rt) (n : Nat) (F : wq_F) (a0 : Nat) : Option (Nat × wq_F) :=
  dk_144_4 R n n F a0 0
theorem dkT_144 {d n : Nat} {R : dk_Rt} (hR : dk_spec (d + 12) R) {F : wq_F} (hT : xm_T F) {a0 : Nat} (ha0 : a0 < 4294967296) {x : Nat × wq_F} (h : dk_144 R n F a0 = some x) : mq (d + 12 + 1) 144 [36893488147419103288, a0] xm_sh F (wkI xm_T xm_sh x) := by
  have e : ev_ent [36893488147419103288, a0] = [36893488147419103288, a0] := by
    show 36893488147419103288 :: ev_ent [a0] = _
    rw [wm_entI ha0]
    rfl
  refine mq_of (maxL := 4) (rt := (some .int)) (code := (ev_un al_mX4_row.2.2.2.2)) (L := [36893488147419103288, a0, 73786976294838206464, 73786976294838206464]) rfl (by rw [e]; exact Nat.le_of_ble_eq_true rfl) (by rw [e]; rfl) ?_
  unfold dk_144 at h
  refine wq_iconst rfl rfl ?_
  refine wq_istore_n rfl (wm_zlt (by decide)) (Nat.le_of_ble_eq_true rfl) (Or.inr ⟨_, rfl, (wq_notL ha0)⟩) (L' := [36893488147419103288, a0, 0, 73786976294838206464]) rfl ?_
  refine wq_iconst rfl rfl ?_
  refine wq_istore_n rfl (wm_zlt (by decide)) (Nat.le_of_ble_eq_true rfl) (Or.inr ⟨_, rfl, (wq_notL (wm_zlt (by decide)))⟩) (L' := [36893488147419103288, a0, 0, 0]) rfl ?_
  exact dk_144_4T hR n hT ha0 (wm_zlt (by decide)) (wq_notL (wm_zlt (by decide))) h
