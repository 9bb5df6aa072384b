/-! ===== a87: the class's methods that reset calls, as functions on memories (by wip/whole2/lawa87.py, dc.py): 61 X9_open, 60 X9_clear, 62 X9_find, 64 X9_add, 63 X9_put, 69 X5_open, 67 X3_make, 70 X5_enter, 86 X0_clear, 92 X1_newTable, 91 X1_furnish ===== -/
def dk_104 (F : wq_F) (a0 : Nat) : Option (Nat × wq_F) := some (0, fl_up F 36 4096 a0)
theorem dkT_104 {d : Nat} {F : wq_F} (hT : xm_T F) {a0 : Nat} (ha0 : a0 < 4294967296) {x : Nat × wq_F} (h : dk_104 F a0 = some x) : mq (d + 1) 104 [36893488147419103268, a0] xm_sh F (wkN xm_T xm_sh x) := by
  rw [← Option.some.inj h]
  exact jf_104 hT ha0
def dk_105 (F : wq_F) (a0 : Nat) : Option (Nat × wq_F) := some (0, fl_up F 72 2001 (ev_b8 a0))
theorem dkT_105 {d : Nat} {F : wq_F} (hT : xm_T F) {a0 : Nat} (ha0 : a0 < 4294967296) {x : Nat × wq_F} (h : dk_105 F a0 = some x) : mq (d + 1) 105 [36893488147419103304, a0] xm_sh F (wkN xm_T xm_sh x) := by
  rw [← Option.some.inj h]
  exact jf_105 hT ha0
/-- X9_open -/
def dk_61 (F : wq_F) (a0 : Nat) : Option (Nat × wq_F) :=
  od_g (a0 < 2001) <|
  od_up F 25 a0 0 fun F2 =>
  od_g (a0 < 2001) <|
  od_up F2 26 a0 0 fun F6 =>
  od_g (a0 < 2001) <|
  od_up F6 27 a0 0 fun F10 =>
  od_g (a0 < 2001) <|
  od_up F10 28 a0 0 fun F14 =>
  some (0, F14)
theorem dkT_61 {d : Nat} {F : wq_F} (hT : xm_T F) {a0 : Nat} (ha0 : a0 < 4294967296) {x : Nat × wq_F} (h : dk_61 F a0 = some x) : mq (d + 0 + 1) 61 [36893488147419103256, a0] xm_sh F (wkN xm_T xm_sh x) := by
  have e : ev_ent [36893488147419103256, a0] = [36893488147419103256, a0] := by
    show 36893488147419103256 :: ev_ent [a0] = _
    rw [wm_entI ha0]
    rfl
  refine mq_of (maxL := 2) (rt := none) (code := (ev_un al_mX9_open.2.2.2.2)) (L := [36893488147419103256, a0]) rfl (by rw [e]; exact Nat.le_of_ble_eq_true rfl) (by rw [e]; rfl) ?_
  unfold dk_61 at h
  refine wq_aload_n rfl rfl rfl ?_
  refine xm_getR (v := 36893488147419103257) (q := 24) rfl rfl (by decide) (by decide) (hT.r (k := 24) 0 24 rfl (by decide) rfl) ?_
  refine wq_iload_n rfl rfl ha0 ?_
  refine wq_iconst rfl rfl ?_
  obtain ⟨g1, h⟩ := od_gE h
  obtain ⟨F2, e3, h⟩ := od_upE h
  refine wd_iastore (q := 25) (n := 2001) rfl rfl (by decide) g1 (by decide) (wm_zlt (by decide)) e3 ?_
  have T4 : xm_T F2 := wd_T e3 (hT.ua (k := 25) (kd := 1000) (n := 2001) (i := a0) (v := 0) rfl (by decide) g1 (show 0 < 4294967296 from (wm_zlt (by decide))))
  refine wq_aload_n rfl rfl rfl ?_
  refine xm_getR (v := 36893488147419103258) (q := 24) rfl rfl (by decide) (by decide) (T4.r (k := 24) 1 25 rfl (by decide) rfl) ?_
  refine wq_iload_n rfl rfl ha0 ?_
  refine wq_iconst rfl rfl ?_
  obtain ⟨g5, h⟩ := od_gE h
  obtain ⟨F6, e7, h⟩ := od_upE h
  refine wd_iastore (q := 26) (n := 2001) rfl rfl (by decide) g5 (by decide) (wm_zlt (by decide)) e7 ?_
  have T8 : xm_T F6 := wd_T e7 (T4.ua (k := 26) (kd := 1000) (n := 2001) (i := a0) (v := 0) rfl (by decide) g5 (show 0 < 4294967296 from (wm_zlt (by decide))))
  refine wq_aload_n rfl rfl rfl ?_
  refine xm_getR (v := 36893488147419103259) (q := 24) rfl rfl (by decide) (by decide) (T8.r (k := 24) 2 26 rfl (by decide) rfl) ?_
  refine wq_iload_n rfl rfl ha0 ?_
  refine wq_iconst rfl rfl ?_
  obtain ⟨g9, h⟩ := od_gE h
  obtain ⟨F10, e11, h⟩ := od_upE h
  refine wd_iastore (q := 27) (n := 2001) rfl rfl (by decide) g9 (by decide) (wm_zlt (by decide)) e11 ?_
  have T12 : xm_T F10 := wd_T e11 (T8.ua (k := 27) (kd := 1000) (n := 2001) (i := a0) (v := 0) rfl (by decide) g9 (show 0 < 4294967296 from (wm_zlt (by decide))))
  refine wq_aload_n rfl rfl rfl ?_
  refine xm_getR (v := 36893488147419103260) (q := 24) rfl rfl (by decide) (by decide) (T12.r (k := 24) 3 27 rfl (by decide) rfl) ?_
  refine wq_iload_n rfl rfl ha0 ?_
  refine wq_iconst rfl rfl ?_
  obtain ⟨g13, h⟩ := od_gE h
  obtain ⟨F14, e15, h⟩ := od_upE h
  refine wd_iastore (q := 28) (n := 2001) rfl rfl (by decide) g13 (by decide) (wm_zlt (by decide)) e15 ?_
  have T16 : xm_T F14 := wd_T e15 (T12.ua (k := 28) (kd := 1000) (n := 2001) (i := a0) (v := 0) rfl (by decide) g13 (show 0 < 4294967296 from (wm_zlt (by decide))))
  exact wq_ret rfl (wkON h T16)
/-- X9_clear -/
def dk_60 (F : wq_F) : Option (Nat × wq_F) :=
  (dk_104 F 0).bind fun y1 =>
  od_up y1.2 24 14 0 fun F4 =>
  od_up F4 24 15 0 fun F7 =>
  od_up F7 24 16 0 fun F10 =>
  (dk_61 F10 0).bind fun y13 =>
  some (0, y13.2)
theorem dkT_60 {d : Nat} {F : wq_F} (hT : xm_T F) {x : Nat × wq_F} (h : dk_60 F = some x) : mq (d + 1 + 1) 60 [36893488147419103256] xm_sh F (wkN xm_T xm_sh x) := by
  have e : ev_ent [36893488147419103256] = [36893488147419103256] := by
    rfl
  refine mq_of (maxL := 1) (rt := none) (code := (ev_un al_mX9_clear.2.2.2.2)) (L := [36893488147419103256]) rfl (by rw [e]; exact Nat.le_of_ble_eq_true rfl) (by rw [e]; rfl) ?_
  unfold dk_60 at h
  refine wq_aload_n rfl rfl rfl ?_
  refine xm_getR (v := 36893488147419103268) (q := 24) rfl rfl (by decide) (by decide) (hT.r (k := 24) 11 35 rfl (by decide) rfl) ?_
  refine wq_iconst rfl rfl ?_
  obtain ⟨y1, e2, h⟩ := od_bindE h
  refine wd_statN (y := y1) (as := [36893488147419103268, 0]) rfl (by decide) (Nat.le_of_ble_eq_true rfl) rfl (Nat.le_of_ble_eq_true rfl) rfl (dkT_104 hT (wm_zlt (by decide)) e2) (fun T3 => ?_)
  refine wq_aload_n rfl rfl rfl ?_
  refine wq_iconst rfl rfl ?_
  obtain ⟨F4, e5, h⟩ := od_upE h
  refine xmE_put (q := 24) rfl rfl (by decide) (by decide) (wq_I (wm_zlt (by decide))) e5 ?_
  have T6 : xm_T F4 := wd_T e5 (T3.uf (k := 24) (f := 14) (c := 0) (v := 0) rfl (by decide) rfl (show 0 < 4294967296 from (wm_zlt (by decide))))
  refine wq_aload_n rfl rfl rfl ?_
  refine wq_iconst rfl rfl ?_
  obtain ⟨F7, e8, h⟩ := od_upE h
  refine xmE_put (q := 24) rfl rfl (by decide) (by decide) (wq_I (wm_zlt (by decide))) e8 ?_
  have T9 : xm_T F7 := wd_T e8 (T6.uf (k := 24) (f := 15) (c := 0) (v := 0) rfl (by decide) rfl (show 0 < 4294967296 from (wm_zlt (by decide))))
  refine wq_aload_n rfl rfl rfl ?_
  refine wq_iconst rfl rfl ?_
  obtain ⟨F10, e11, h⟩ := od_upE h
  refine xmE_put (q := 24) rfl rfl (by decide) (by decide) (wq_I (wm_zlt (by decide))) e11 ?_
  have T12 : xm_T F10 := wd_T e11 (T9.uf (k := 24) (f := 16) (c := 0) (v := 0) rfl (by decide) rfl (show 0 < 4294967296 from (wm_zlt (by decide))))
  refine wq_aload_n rfl rfl rfl ?_
  refine wq_iconst rfl rfl ?_
  obtain ⟨y13, e14, h⟩ := od_bindE h
  refine wd_virtN (q := 24) (y := y13) (as := [36893488147419103256, 0]) rfl rfl rfl (by decide) (Nat.le_of_ble_eq_true rfl) (Nat.le_of_ble_eq_true rfl) rfl (Nat.le_of_ble_eq_true rfl) rfl (dkT_61 T12 (wm_zlt (by decide)) e14) (fun T16 => ?_)
  exact wq_ret rfl (wkON h T16)
def dk_62_52b (n : Nat) (r52 : wq_F → Nat → Nat → Nat → Nat → Option (Nat × wq_F)) (F : wq_F) (v1 : Nat) (v2 : Nat) (v3 : Nat) (v6 : Nat) : Option (Nat × wq_F) :=
  if v6 = 0 then
    some (v6, F)
  else
    od_g (v6 < 3001) <|
    od_let (18446744073709551616 + F 31 v6) fun y3 =>
    od_let (ev_oCmpL (y3 - 18446744073709551616) (v3 - 18446744073709551616)) fun y6 =>
    if y6 = 0 then
      od_g (v6 < 3001) <|
      if (F 29 v6) = v2 then
        od_g (v6 < 3001) <|
        if (F 33 v6) = v1 then
          some (v6, F)
        else
          od_g (v6 < 3001) <|
          r52 F v1 v2 v3 (F 35 v6)
      else
        od_g (v6 < 3001) <|
        r52 F v1 v2 v3 (F 35 v6)
    else
      od_g (v6 < 3001) <|
      r52 F v1 v2 v3 (F 35 v6)
theorem dk_62_52bT {d n : Nat} {r52 : wq_F → Nat → Nat → Nat → Nat → Option (Nat × wq_F)} (hr52 : ∀ ⦃u5 : Nat⦄ ⦃F : wq_F⦄ (hT : xm_T F) ⦃v1 : Nat⦄ (hv1 : v1 < 4294967296) ⦃v2 : Nat⦄ (hv2 : v2 < 4294967296) ⦃v3 : Nat⦄ (hv3 : ev_isL v3 = true) ⦃v6 : Nat⦄ (hv6 : v6 < 4294967296) (hu5 : ev_isL u5 = false) ⦃x : Nat × wq_F⦄ (h : r52 F v1 v2 v3 v6 = some x), wq (wq_cf (d + 0)) (ev_un al_mX9_find.2.2.2.2) (some .int) 52 [36893488147419103256, v1, v2, v3, 73786976294838206464, u5, v6] [] xm_sh F 0 0 (wkI xm_T xm_sh x)) : ∀ ⦃u5 : Nat⦄ ⦃F : wq_F⦄ (hT : xm_T F) ⦃v1 : Nat⦄ (hv1 : v1 < 4294967296) ⦃v2 : Nat⦄ (hv2 : v2 < 4294967296) ⦃v3 : Nat⦄ (hv3 : ev_isL v3 = true) ⦃v6 : Nat⦄ (hv6 : v6 < 4294967296) (hu5 : ev_isL u5 = false) ⦃x : Nat × wq_F⦄ (h : dk_62_52b n r52 F v1 v2 v3 v6 = some x), wq (wq_cf (d + 0)) (ev_un al_mX9_find.2.2.2.2) (some .int) 52 [36893488147419103256, v1, v2, v3, 73786976294838206464, u5, v6] [] xm_sh F 0 0 (wkI xm_T xm_sh x) := by
  intro u5 F hT v1 hv1 v2 hv2 v3 hv3 v6 hv6 hu5 x h
  unfold dk_62_52b at h
  refine wq_iload rfl rfl hv6 ?_
  refine wq_if_eq rfl rfl hv6 (fun h1 => ?_) (fun h1 => ?_)
  · replace h := od_pos h h1
    refine wq_iload rfl rfl hv6 ?_
    exact wq_iret rfl hv6 rfl (wkOI h hT hv6)
  · replace h := od_neg h h1
    refine wq_aload_n rfl rfl rfl ?_
    refine xm_getR (v := 36893488147419103263) (q := 24) rfl rfl (by decide) (by decide) (hT.r (k := 24) 6 30 rfl (by decide) rfl) ?_
    refine wq_iload rfl rfl hv6 ?_
    obtain ⟨g2, h⟩ := od_gE h
    refine wq_laload (q := 31) (n := 3001) rfl rfl (by decide) g2 (by decide) ?_
    obtain ⟨y3, e4, h⟩ := od_letE h
    refine wq_top e4.symm ?_
    have p5 : ev_isL y3 = true := wd_ge e4 (wm_al_L (hT.al (k := 31) rfl g2))
    refine wq_lload_n rfl rfl hv3 ?_
    refine wq_lcmp rfl p5 hv3 ?_
    obtain ⟨y6, e7, h⟩ := od_letE h
    refine wq_top e7.symm ?_
    have p8 : y6 < 4294967296 := wd_lt e7 (wq_oCmp_lt _ _)
    refine wq_if_ne rfl rfl p8 (fun h9 => ?_) (fun h9 => ?_)
    · replace h := od_neg h h9
      refine wq_aload_n rfl rfl rfl ?_
      refine xm_getR (v := 36893488147419103267) (q := 24) rfl rfl (by decide) (by decide) (hT.r (k := 24) 10 34 rfl (by decide) rfl) ?_
      refine wq_iload rfl rfl hv6 ?_
      obtain ⟨g10, h⟩ := od_gE h
      refine wq_iaload (q := 35) (n := 3001) rfl rfl (by decide) g10 (by decide) ?_
      refine wq_istore rfl (hT.ai (k := 35) rfl g10) (Nat.le_of_ble_eq_true rfl) (Or.inr ⟨_, rfl, hu5⟩) (L' := [36893488147419103256, v1, v2, v3, 73786976294838206464, u5, F 35 v6]) rfl ?_
      refine wq_goto rfl rfl ?_
      exact hr52 hT hv1 hv2 hv3 (hT.ai (k := 35) rfl g10) hu5 h
    · replace h := od_pos h h9
      refine wq_aload_n rfl rfl rfl ?_
      refine xm_getR (v := 36893488147419103261) (q := 24) rfl rfl (by decide) (by decide) (hT.r (k := 24) 4 28 rfl (by decide) rfl) ?_
      refine wq_iload rfl rfl hv6 ?_
      obtain ⟨g11, h⟩ := od_gE h
      refine wq_baload (q := 29) (n := 3001) rfl rfl (by decide) g11 (by decide) ?_
      refine wq_iload_n rfl rfl hv2 ?_
      refine wq_ic_ne rfl rfl (hT.ab (k := 29) rfl g11) hv2 (fun h12 => ?_) (fun h12 => ?_)
      · replace h := od_neg h h12
        refine wq_aload_n rfl rfl rfl ?_
        refine xm_getR (v := 36893488147419103267) (q := 24) rfl rfl (by decide) (by decide) (hT.r (k := 24) 10 34 rfl (by decide) rfl) ?_
        refine wq_iload rfl rfl hv6 ?_
        obtain ⟨g13, h⟩ := od_gE h
        refine wq_iaload (q := 35) (n := 3001) rfl rfl (by decide) g13 (by decide) ?_
        refine wq_istore rfl (hT.ai (k := 35) rfl g13) (Nat.le_of_ble_eq_true rfl) (Or.inr ⟨_, rfl, hu5⟩) (L' := [36893488147419103256, v1, v2, v3, 73786976294838206464, u5, F 35 v6]) rfl ?_
        refine wq_goto rfl rfl ?_
        exact hr52 hT hv1 hv2 hv3 (hT.ai (k := 35) rfl g13) hu5 h
      · replace h := od_pos h h12
        refine wq_aload_n rfl rfl rfl ?_
        refine xm_getR (v := 36893488147419103265) (q := 24) rfl rfl (by decide) (by decide) (hT.r (k := 24) 8 32 rfl (by decide) rfl) ?_
        refine wq_iload rfl rfl hv6 ?_
        obtain ⟨g14, h⟩ := od_gE h
        refine wq_iaload (q := 33) (n := 3001) rfl rfl (by decide) g14 (by decide) ?_
        refine wq_iload_n rfl rfl hv1 ?_
        refine wq_ic_eq rfl rfl (hT.ai (k := 33) rfl g14) hv1 (fun h15 => ?_) (fun h15 => ?_)
        · replace h := od_pos h h15
          refine wq_iload rfl rfl hv6 ?_
          exact wq_iret rfl hv6 rfl (wkOI h hT hv6)
        · replace h := od_neg h h15
          refine wq_aload_n rfl rfl rfl ?_
          refine xm_getR (v := 36893488147419103267) (q := 24) rfl rfl (by decide) (by decide) (hT.r (k := 24) 10 34 rfl (by decide) rfl) ?_
          refine wq_iload rfl rfl hv6 ?_
          obtain ⟨g16, h⟩ := od_gE h
          refine wq_iaload (q := 35) (n := 3001) rfl rfl (by decide) g16 (by decide) ?_
          refine wq_istore rfl (hT.ai (k := 35) rfl g16) (Nat.le_of_ble_eq_true rfl) (Or.inr ⟨_, rfl, hu5⟩) (L' := [36893488147419103256, v1, v2, v3, 73786976294838206464, u5, F 35 v6]) rfl ?_
          refine wq_goto rfl rfl ?_
          exact hr52 hT hv1 hv2 hv3 (hT.ai (k := 35) rfl g16) hu5 h
def dk_62_52 (n : Nat) : Nat → wq_F → Nat → Nat → Nat → Nat → Option (Nat × wq_F)
  | 0 => fun _ _ _ _ _ => none
  | g + 1 => dk_62_52b n (dk_62_52 n g)
theorem dk_62_52T {d n : Nat} : ∀ g : Nat, ∀ ⦃u5 : Nat⦄ ⦃F : wq_F⦄ (hT : xm_T F) ⦃v1 : Nat⦄ (hv1 : v1 < 4294967296) ⦃v2 : Nat⦄ (hv2 : v2 < 4294967296) ⦃v3 : Nat⦄ (hv3 : ev_isL v3 = true) ⦃v6 : Nat⦄ (hv6 : v6 < 4294967296) (hu5 : ev_isL u5 = false) ⦃x : Nat × wq_F⦄ (h : dk_62_52 n g F v1 v2 v3 v6 = some x), wq (wq_cf (d + 0)) (ev_un al_mX9_find.2.2.2.2) (some .int) 52 [36893488147419103256, v1, v2, v3, 73786976294838206464, u5, v6] [] xm_sh F 0 0 (wkI xm_T xm_sh x)
  | 0 => by
    intro u5 F hT v1 hv1 v2 hv2 v3 hv3 v6 hv6 hu5 x h
    cases h
  | g + 1 => dk_62_52bT (dk_62_52T g)
/-- X9_find -/
def dk_62 (n : Nat) (F : wq_F) (a0 : Nat) (a1 : Nat) (a2 : Nat) : Option (Nat × wq_F) :=
  od_let (ev_oXorL (a2 - 18446744073709551616) ((ev_oUshL a2 32) - 18446744073709551616)) fun y1 =>
  od_let (((ev_oMul (ev_oL2i y1) 31) + a1) % 4294967296) fun y4 =>
  od_let (((ev_oMul y4 31) + a0) % 4294967296) fun y7 =>
  od_let (ev_oXor (ev_oXor y7 (ev_oUsh y7 12)) (ev_oUsh y7 24)) fun y10 =>
  od_up F 24 13 (ev_oAnd y10 4095) fun F13 =>
  od_g (F13 24 13 < 4096) <|
  dk_62_52 n n F13 a0 a1 a2 (F13 36 (F13 24 13))
theorem dkT_62 {d n : Nat} {F : wq_F} (hT : xm_T F) {a0 : Nat} (ha0 : a0 < 4294967296) {a1 : Nat} (ha1 : a1 < 4294967296) {a2 : Nat} (ha2 : ev_isL a2 = true) {x : Nat × wq_F} (h : dk_62 n F a0 a1 a2 = some x) : mq (d + 0 + 1) 62 [36893488147419103256, a0, a1, a2] xm_sh F (wkI xm_T xm_sh x) := by
  have e : ev_ent [36893488147419103256, a0, a1, a2] = [36893488147419103256, a0, a1, a2, 73786976294838206464] := by
    show 36893488147419103256 :: ev_ent [a0, a1, a2] = _
    rw [wm_entI ha0, wm_entI ha1, wd_entL ha2]
    rfl
  refine mq_of (maxL := 7) (rt := (some .int)) (code := (ev_un al_mX9_find.2.2.2.2)) (L := [36893488147419103256, a0, a1, a2, 73786976294838206464, 73786976294838206464, 73786976294838206464]) rfl (by rw [e]; exact Nat.le_of_ble_eq_true rfl) (by rw [e]; rfl) ?_
  unfold dk_62 at h
  refine wq_lload_n rfl rfl ha2 ?_
  refine wq_lload_n rfl rfl ha2 ?_
  refine wq_bipush rfl rfl ?_
  refine wq_lushr rfl ha2 (by decide) ?_
  refine wq_lxor rfl ha2 (wq_L_lushr ha2 (by decide)) ?_
  obtain ⟨y1, e2, h⟩ := od_letE h
  refine wq_top e2.symm ?_
  have p3 : ev_isL y1 = true := wd_ge e2 (wq_L_lxor ha2 (wq_L_lushr ha2 (by decide)))
  refine wq_l2i rfl p3 ?_
  refine wq_bipush rfl rfl ?_
  refine wq_imul rfl (Nat.mod_lt _ (by decide)) (by decide) ?_
  refine wq_iload_n rfl rfl ha1 ?_
  refine wq_iaddZ rfl (Nat.mod_lt _ (by decide)) ha1 (z := ((ev_oMul (ev_oL2i y1) 31) + a1) % 4294967296) rfl ?_
  obtain ⟨y4, e5, h⟩ := od_letE h
  refine wq_top e5.symm ?_
  have p6 : y4 < 4294967296 := wd_lt e5 (Nat.mod_lt _ (by decide))
  refine wq_bipush rfl rfl ?_
  refine wq_imul rfl p6 (by decide) ?_
  refine wq_iload_n rfl rfl ha0 ?_
  refine wq_iaddZ rfl (Nat.mod_lt _ (by decide)) ha0 (z := ((ev_oMul y4 31) + a0) % 4294967296) rfl ?_
  obtain ⟨y7, e8, h⟩ := od_letE h
  refine wq_top e8.symm ?_
  have p9 : y7 < 4294967296 := wd_lt e8 (Nat.mod_lt _ (by decide))
  refine wq_istore rfl p9 (Nat.le_of_ble_eq_true rfl) (Or.inr ⟨_, rfl, rfl⟩) (L' := [36893488147419103256, a0, a1, a2, 73786976294838206464, y7, 73786976294838206464]) rfl ?_
  refine wq_aload_n rfl rfl rfl ?_
  refine wq_iload rfl rfl p9 ?_
  refine wq_iload rfl rfl p9 ?_
  refine wq_bipush rfl rfl ?_
  refine wq_iushr rfl p9 (by decide) ?_
  refine wq_ixor rfl p9 (wq_I_iushr p9 (by decide)) ?_
  refine wq_iload rfl rfl p9 ?_
  refine wq_bipush rfl rfl ?_
  refine wq_iushr rfl p9 (by decide) ?_
  refine wq_ixor rfl (wq_I_ixor p9 (wq_I_iushr p9 (by decide))) (wq_I_iushr p9 (by decide)) ?_
  obtain ⟨y10, e11, h⟩ := od_letE h
  refine wq_top e11.symm ?_
  have p12 : y10 < 4294967296 := wd_lt e11 (wq_I_ixor (wq_I_ixor p9 (wq_I_iushr p9 (by decide))) (wq_I_iushr p9 (by decide)))
  refine wq_sipush rfl rfl ?_
  refine wq_iand rfl p12 (by decide) ?_
  obtain ⟨F13, e14, h⟩ := od_upE h
  refine xmE_put (q := 24) rfl rfl (by decide) (by decide) (wq_I (wq_I_iand p12 (by decide))) e14 ?_
  have T15 : xm_T F13 := wd_T e14 (hT.uf (k := 24) (f := 13) (c := 0) (v := ev_oAnd y10 4095) rfl (by decide) rfl (show ev_oAnd y10 4095 < 4294967296 from (wq_I_iand p12 (by decide))))
  refine wq_aload_n rfl rfl rfl ?_
  refine xm_getR (v := 36893488147419103268) (q := 24) rfl rfl (by decide) (by decide) (T15.r (k := 24) 11 35 rfl (by decide) rfl) ?_
  refine wq_aload_n rfl rfl rfl ?_
  refine xm_getI (q := 24) rfl rfl (by decide) (by decide) ?_
  obtain ⟨g16, h⟩ := od_gE h
  refine wq_iaload (q := 36) (n := 4096) rfl rfl (by decide) g16 (by decide) ?_
  refine wq_istore rfl (T15.ai (k := 36) rfl g16) (Nat.le_of_ble_eq_true rfl) (Or.inr ⟨_, rfl, (wq_notL p9)⟩) (L' := [36893488147419103256, a0, a1, a2, 73786976294838206464, y7, F13 36 (F13 24 13)]) rfl ?_
  exact dk_62_52T n T15 ha0 ha1 ha2 (T15.ai (k := 36) rfl g16) (wq_notL p9) h
def dk_64_137 (F : wq_F) (v1 : Nat) (v5 : Nat) : Option (Nat × wq_F) :=
  od_g (v1 < 2001) <|
  od_up F 26 v1 v5 fun F2 =>
  od_g (v5 < 3001) <|
  od_up F2 37 v5 (F2 24 13) fun F6 =>
  od_g (F6 24 13 < 4096) <|
  od_g (v5 < 3001) <|
  od_up F6 35 v5 (F6 36 (F6 24 13)) fun F11 =>
  od_g (F11 24 13 < 4096) <|
  od_up F11 36 (F11 24 13) v5 fun F15 =>
  some (v5, F15)
theorem dk_64_137T {d : Nat} : ∀ ⦃u2 : Nat⦄ ⦃u3 : Nat⦄ ⦃F : wq_F⦄ (hT : xm_T F) ⦃v1 : Nat⦄ (hv1 : v1 < 4294967296) ⦃v5 : Nat⦄ (hv5 : v5 < 4294967296) (hu2 : ev_isL u2 = false) ⦃x : Nat × wq_F⦄ (h : dk_64_137 F v1 v5 = some x), wq (wq_cf (d + 0)) (ev_un al_mX9_add.2.2.2.2) (some .int) 137 [36893488147419103256, v1, u2, u3, 73786976294838206464, v5] [] xm_sh F 0 0 (wkI xm_T xm_sh x) := by
  intro u2 u3 F hT v1 hv1 v5 hv5 hu2 x h
  unfold dk_64_137 at h
  refine wq_aload_n rfl rfl rfl ?_
  refine xm_getR (v := 36893488147419103258) (q := 24) rfl rfl (by decide) (by decide) (hT.r (k := 24) 1 25 rfl (by decide) rfl) ?_
  refine wq_iload_n rfl rfl hv1 ?_
  refine wq_iload rfl rfl hv5 ?_
  obtain ⟨g1, h⟩ := od_gE h
  obtain ⟨F2, e3, h⟩ := od_upE h
  refine wd_iastore (q := 26) (n := 2001) rfl rfl (by decide) g1 (by decide) hv5 e3 ?_
  have T4 : xm_T F2 := wd_T e3 (hT.ua (k := 26) (kd := 1000) (n := 2001) (i := v1) (v := v5) rfl (by decide) g1 (show v5 < 4294967296 from hv5))
  refine wq_aload_n rfl rfl rfl ?_
  refine xm_getR (v := 36893488147419103269) (q := 24) rfl rfl (by decide) (by decide) (T4.r (k := 24) 12 36 rfl (by decide) rfl) ?_
  refine wq_iload rfl rfl hv5 ?_
  refine wq_aload_n rfl rfl rfl ?_
  refine xm_getI (q := 24) rfl rfl (by decide) (by decide) ?_
  obtain ⟨g5, h⟩ := od_gE h
  obtain ⟨F6, e7, h⟩ := od_upE h
  refine wd_iastore (q := 37) (n := 3001) rfl rfl (by decide) g5 (by decide) (T4.i (k := 24) 13 rfl (by decide) rfl) e7 ?_
  have T8 : xm_T F6 := wd_T e7 (T4.ua (k := 37) (kd := 1000) (n := 3001) (i := v5) (v := F2 24 13) rfl (by decide) g5 (show F2 24 13 < 4294967296 from (T4.i (k := 24) 13 rfl (by decide) rfl)))
  refine wq_aload_n rfl rfl rfl ?_
  refine xm_getR (v := 36893488147419103267) (q := 24) rfl rfl (by decide) (by decide) (T8.r (k := 24) 10 34 rfl (by decide) rfl) ?_
  refine wq_iload rfl rfl hv5 ?_
  refine wq_aload_n rfl rfl rfl ?_
  refine xm_getR (v := 36893488147419103268) (q := 24) rfl rfl (by decide) (by decide) (T8.r (k := 24) 11 35 rfl (by decide) rfl) ?_
  refine wq_aload_n rfl rfl rfl ?_
  refine xm_getI (q := 24) rfl rfl (by decide) (by decide) ?_
  obtain ⟨g9, h⟩ := od_gE h
  refine wq_iaload (q := 36) (n := 4096) rfl rfl (by decide) g9 (by decide) ?_
  obtain ⟨g10, h⟩ := od_gE h
  obtain ⟨F11, e12, h⟩ := od_upE h
  refine wd_iastore (q := 35) (n := 3001) rfl rfl (by decide) g10 (by decide) (T8.ai (k := 36) rfl g9) e12 ?_
  have T13 : xm_T F11 := wd_T e12 (T8.ua (k := 35) (kd := 1000) (n := 3001) (i := v5) (v := F6 36 (F6 24 13)) rfl (by decide) g10 (show F6 36 (F6 24 13) < 4294967296 from (T8.ai (k := 36) rfl g9)))
  refine wq_aload_n rfl rfl rfl ?_
  refine xm_getR (v := 36893488147419103268) (q := 24) rfl rfl (by decide) (by decide) (T13.r (k := 24) 11 35 rfl (by decide) rfl) ?_
  refine wq_aload_n rfl rfl rfl ?_
  refine xm_getI (q := 24) rfl rfl (by decide) (by decide) ?_
  refine wq_iload rfl rfl hv5 ?_
  obtain ⟨g14, h⟩ := od_gE h
  obtain ⟨F15, e16, h⟩ := od_upE h
  refine wd_iastore (q := 36) (n := 4096) rfl rfl (by decide) g14 (by decide) hv5 e16 ?_
  have T17 : xm_T F15 := wd_T e16 (T13.ua (k := 36) (kd := 1000) (n := 4096) (i := F11 24 13) (v := v5) rfl (by decide) g14 (show v5 < 4294967296 from hv5))
  refine wq_iload rfl rfl hv5 ?_
  exact wq_iret rfl hv5 rfl (wkOI h T17 hv5)
def dk_64_53 (F : wq_F) (v1 : Nat) (v2 : Nat) (v3 : Nat) (v5 : Nat) : Option (Nat × wq_F) :=
  od_up F 24 16 (((F 24 16) + 1) % 4294967296) fun F1 =>
  od_g (v5 < 3001) <|
  od_up F1 33 v5 v1 fun F5 =>
  od_g (v5 < 3001) <|
  od_up F5 29 v5 ((ev_b8 (ev_b8 v2))) fun F9 =>
  od_g (v5 < 3001) <|
  od_up F9 31 v5 ((v3 - 18446744073709551616)) fun F13 =>
  od_g (v5 < 3001) <|
  od_up F13 30 v5 ((ev_b8 0)) fun F17 =>
  od_g (v5 < 3001) <|
  od_up F17 34 v5 0 fun F21 =>
  od_g (v1 < 2001) <|
  if (F21 25 v1) = 0 then
    od_g (v1 < 2001) <|
    od_up F21 25 v1 v5 fun F32 =>
    dk_64_137 F32 v1 v5
  else
    od_g (v1 < 2001) <|
    od_g (F21 26 v1 < 3001) <|
    od_up F21 34 (F21 26 v1) v5 fun F28 =>
    dk_64_137 F28 v1 v5
theorem dk_64_53T {d : Nat} : ∀ ⦃F : wq_F⦄ (hT : xm_T F) ⦃v1 : Nat⦄ (hv1 : v1 < 4294967296) ⦃v2 : Nat⦄ (hv2 : v2 < 4294967296) ⦃v3 : Nat⦄ (hv3 : ev_isL v3 = true) ⦃v5 : Nat⦄ (hv5 : v5 < 4294967296) ⦃x : Nat × wq_F⦄ (h : dk_64_53 F v1 v2 v3 v5 = some x), wq (wq_cf (d + 0)) (ev_un al_mX9_add.2.2.2.2) (some .int) 53 [36893488147419103256, v1, v2, v3, 73786976294838206464, v5] [] xm_sh F 0 0 (wkI xm_T xm_sh x) := by
  intro F hT v1 hv1 v2 hv2 v3 hv3 v5 hv5 x h
  unfold dk_64_53 at h
  refine wq_aload_n rfl rfl rfl ?_
  refine wq_dup rfl rfl ?_
  refine xm_getI (q := 24) rfl rfl (by decide) (by decide) ?_
  refine wq_iconst rfl rfl ?_
  refine wq_iaddZ rfl (hT.i (k := 24) 16 rfl (by decide) rfl) (wm_zlt (by decide)) (z := ((F 24 16) + 1) % 4294967296) rfl ?_
  obtain ⟨F1, e2, h⟩ := od_upE h
  refine xmE_put (q := 24) rfl rfl (by decide) (by decide) (wq_I (Nat.mod_lt _ (by decide))) e2 ?_
  have T3 : xm_T F1 := wd_T e2 (hT.uf (k := 24) (f := 16) (c := 0) (v := ((F 24 16) + 1) % 4294967296) rfl (by decide) rfl (show ((F 24 16) + 1) % 4294967296 < 4294967296 from (Nat.mod_lt _ (by decide))))
  refine wq_aload_n rfl rfl rfl ?_
  refine xm_getR (v := 36893488147419103265) (q := 24) rfl rfl (by decide) (by decide) (T3.r (k := 24) 8 32 rfl (by decide) rfl) ?_
  refine wq_iload rfl rfl hv5 ?_
  refine wq_iload_n rfl rfl hv1 ?_
  obtain ⟨g4, h⟩ := od_gE h
  obtain ⟨F5, e6, h⟩ := od_upE h
  refine wd_iastore (q := 33) (n := 3001) rfl rfl (by decide) g4 (by decide) hv1 e6 ?_
  have T7 : xm_T F5 := wd_T e6 (T3.ua (k := 33) (kd := 1000) (n := 3001) (i := v5) (v := v1) rfl (by decide) g4 (show v1 < 4294967296 from hv1))
  refine wq_aload_n rfl rfl rfl ?_
  refine xm_getR (v := 36893488147419103261) (q := 24) rfl rfl (by decide) (by decide) (T7.r (k := 24) 4 28 rfl (by decide) rfl) ?_
  refine wq_iload rfl rfl hv5 ?_
  refine wq_iload_n rfl rfl hv2 ?_
  refine wq_i2b rfl hv2 ?_
  obtain ⟨g8, h⟩ := od_gE h
  obtain ⟨F9, e10, h⟩ := od_upE h
  refine wd_bastore (q := 29) (n := 3001) rfl rfl (by decide) g8 (by decide) (ev_b8_lt _) e10 ?_
  have T11 : xm_T F9 := wd_T e10 (T7.ua (k := 29) (kd := 1001) (n := 3001) (i := v5) (v := (ev_b8 (ev_b8 v2))) rfl (by decide) g8 ⟨ev_b8_lt _, wm_b8b8 _⟩)
  refine wq_aload_n rfl rfl rfl ?_
  refine xm_getR (v := 36893488147419103263) (q := 24) rfl rfl (by decide) (by decide) (T11.r (k := 24) 6 30 rfl (by decide) rfl) ?_
  refine wq_iload rfl rfl hv5 ?_
  refine wq_lload_n rfl rfl hv3 ?_
  obtain ⟨g12, h⟩ := od_gE h
  obtain ⟨F13, e14, h⟩ := od_upE h
  refine wd_lastore (q := 31) (n := 3001) rfl rfl (by decide) g12 (by decide) hv3 e14 ?_
  have T15 : xm_T F13 := wd_T e14 (T11.ua (k := 31) (kd := 1010) (n := 3001) (i := v5) (v := (v3 - 18446744073709551616)) rfl (by decide) g12 (wm_subL hv3))
  refine wq_aload_n rfl rfl rfl ?_
  refine xm_getR (v := 36893488147419103262) (q := 24) rfl rfl (by decide) (by decide) (T15.r (k := 24) 5 29 rfl (by decide) rfl) ?_
  refine wq_iload rfl rfl hv5 ?_
  refine wq_iconst rfl rfl ?_
  obtain ⟨g16, h⟩ := od_gE h
  obtain ⟨F17, e18, h⟩ := od_upE h
  refine wd_bastore (q := 30) (n := 3001) rfl rfl (by decide) g16 (by decide) (wm_zlt (by decide)) e18 ?_
  have T19 : xm_T F17 := wd_T e18 (T15.ua (k := 30) (kd := 1001) (n := 3001) (i := v5) (v := (ev_b8 0)) rfl (by decide) g16 ⟨ev_b8_lt _, wm_b8b8 _⟩)
  refine wq_aload_n rfl rfl rfl ?_
  refine xm_getR (v := 36893488147419103266) (q := 24) rfl rfl (by decide) (by decide) (T19.r (k := 24) 9 33 rfl (by decide) rfl) ?_
  refine wq_iload rfl rfl hv5 ?_
  refine wq_iconst rfl rfl ?_
  obtain ⟨g20, h⟩ := od_gE h
  obtain ⟨F21, e22, h⟩ := od_upE h
  refine wd_iastore (q := 34) (n := 3001) rfl rfl (by decide) g20 (by decide) (wm_zlt (by decide)) e22 ?_
  have T23 : xm_T F21 := wd_T e22 (T19.ua (k := 34) (kd := 1000) (n := 3001) (i := v5) (v := 0) rfl (by decide) g20 (show 0 < 4294967296 from (wm_zlt (by decide))))
  refine wq_aload_n rfl rfl rfl ?_
  refine xm_getR (v := 36893488147419103257) (q := 24) rfl rfl (by decide) (by decide) (T23.r (k := 24) 0 24 rfl (by decide) rfl) ?_
  refine wq_iload_n rfl rfl hv1 ?_
  obtain ⟨g24, h⟩ := od_gE h
  refine wq_iaload (q := 25) (n := 2001) rfl rfl (by decide) g24 (by decide) ?_
  refine wq_if_ne rfl rfl (T23.ai (k := 25) rfl g24) (fun h25 => ?_) (fun h25 => ?_)
  · replace h := od_neg h h25
    refine wq_aload_n rfl rfl rfl ?_
    refine xm_getR (v := 36893488147419103266) (q := 24) rfl rfl (by decide) (by decide) (T23.r (k := 24) 9 33 rfl (by decide) rfl) ?_
    refine wq_aload_n rfl rfl rfl ?_
    refine xm_getR (v := 36893488147419103258) (q := 24) rfl rfl (by decide) (by decide) (T23.r (k := 24) 1 25 rfl (by decide) rfl) ?_
    refine wq_iload_n rfl rfl hv1 ?_
    obtain ⟨g26, h⟩ := od_gE h
    refine wq_iaload (q := 26) (n := 2001) rfl rfl (by decide) g26 (by decide) ?_
    refine wq_iload rfl rfl hv5 ?_
    obtain ⟨g27, h⟩ := od_gE h
    obtain ⟨F28, e29, h⟩ := od_upE h
    refine wd_iastore (q := 34) (n := 3001) rfl rfl (by decide) g27 (by decide) hv5 e29 ?_
    have T30 : xm_T F28 := wd_T e29 (T23.ua (k := 34) (kd := 1000) (n := 3001) (i := F21 26 v1) (v := v5) rfl (by decide) g27 (show v5 < 4294967296 from hv5))
    exact dk_64_137T T30 hv1 hv5 (wq_notL hv2) h
  · replace h := od_pos h h25
    refine wq_aload_n rfl rfl rfl ?_
    refine xm_getR (v := 36893488147419103257) (q := 24) rfl rfl (by decide) (by decide) (T23.r (k := 24) 0 24 rfl (by decide) rfl) ?_
    refine wq_iload_n rfl rfl hv1 ?_
    refine wq_iload rfl rfl hv5 ?_
    obtain ⟨g31, h⟩ := od_gE h
    obtain ⟨F32, e33, h⟩ := od_upE h
    refine wd_iastore (q := 25) (n := 2001) rfl rfl (by decide) g31 (by decide) hv5 e33 ?_
    have T34 : xm_T F32 := wd_T e33 (T23.ua (k := 25) (kd := 1000) (n := 2001) (i := v1) (v := v5) rfl (by decide) g31 (show v5 < 4294967296 from hv5))
    refine wq_goto rfl rfl ?_
    exact dk_64_137T T34 hv1 hv5 (wq_notL hv2) h
/-- X9_add -/
def dk_64 (F : wq_F) (a0 : Nat) (a1 : Nat) (a2 : Nat) : Option (Nat × wq_F) :=
  if ev_s (F 24 16) < ev_s 3000 then
    if (F 24 14) = 0 then
      od_up F 24 15 (((F 24 15) + 1) % 4294967296) fun F3 =>
      dk_64_53 F3 a0 a1 a2 (F3 24 15)
    else
      od_g (F 24 14 < 3001) <|
      od_up F 24 14 (F 34 (F 24 14)) fun F7 =>
      dk_64_53 F7 a0 a1 a2 (F 24 14)
  else
    some (0, F)
theorem dkT_64 {d : Nat} {F : wq_F} (hT : xm_T F) {a0 : Nat} (ha0 : a0 < 4294967296) {a1 : Nat} (ha1 : a1 < 4294967296) {a2 : Nat} (ha2 : ev_isL a2 = true) {x : Nat × wq_F} (h : dk_64 F a0 a1 a2 = some x) : mq (d + 0 + 1) 64 [36893488147419103256, a0, a1, a2] xm_sh F (wkI xm_T xm_sh x) := by
  have e : ev_ent [36893488147419103256, a0, a1, a2] = [36893488147419103256, a0, a1, a2, 73786976294838206464] := by
    show 36893488147419103256 :: ev_ent [a0, a1, a2] = _
    rw [wm_entI ha0, wm_entI ha1, wd_entL ha2]
    rfl
  refine mq_of (maxL := 6) (rt := (some .int)) (code := (ev_un al_mX9_add.2.2.2.2)) (L := [36893488147419103256, a0, a1, a2, 73786976294838206464, 73786976294838206464]) rfl (by rw [e]; exact Nat.le_of_ble_eq_true rfl) (by rw [e]; rfl) ?_
  unfold dk_64 at h
  refine wq_aload_n rfl rfl rfl ?_
  refine xm_getI (q := 24) rfl rfl (by decide) (by decide) ?_
  refine wq_sipush rfl rfl ?_
  refine wq_ic_lt rfl rfl (hT.i (k := 24) 16 rfl (by decide) rfl) (by decide) (fun h1 => ?_) (fun h1 => ?_)
  · replace h := od_pos h h1
    refine wq_aload_n rfl rfl rfl ?_
    refine xm_getI (q := 24) rfl rfl (by decide) (by decide) ?_
    refine wq_istore rfl (hT.i (k := 24) 14 rfl (by decide) rfl) (Nat.le_of_ble_eq_true rfl) (Or.inr ⟨_, rfl, rfl⟩) (L' := [36893488147419103256, a0, a1, a2, 73786976294838206464, F 24 14]) rfl ?_
    refine wq_iload rfl rfl (hT.i (k := 24) 14 rfl (by decide) rfl) ?_
    refine wq_if_eq rfl rfl (hT.i (k := 24) 14 rfl (by decide) rfl) (fun h2 => ?_) (fun h2 => ?_)
    · replace h := od_pos h h2
      refine wq_aload_n rfl rfl rfl ?_
      refine wq_dup rfl rfl ?_
      refine xm_getI (q := 24) rfl rfl (by decide) (by decide) ?_
      refine wq_iconst rfl rfl ?_
      refine wq_iaddZ rfl (hT.i (k := 24) 15 rfl (by decide) rfl) (wm_zlt (by decide)) (z := ((F 24 15) + 1) % 4294967296) rfl ?_
      obtain ⟨F3, e4, h⟩ := od_upE h
      refine xmE_put (q := 24) rfl rfl (by decide) (by decide) (wq_I (Nat.mod_lt _ (by decide))) e4 ?_
      have T5 : xm_T F3 := wd_T e4 (hT.uf (k := 24) (f := 15) (c := 0) (v := ((F 24 15) + 1) % 4294967296) rfl (by decide) rfl (show ((F 24 15) + 1) % 4294967296 < 4294967296 from (Nat.mod_lt _ (by decide))))
      refine wq_aload_n rfl rfl rfl ?_
      refine xm_getI (q := 24) rfl rfl (by decide) (by decide) ?_
      refine wq_istore rfl (T5.i (k := 24) 15 rfl (by decide) rfl) (Nat.le_of_ble_eq_true rfl) (Or.inr ⟨_, rfl, rfl⟩) (L' := [36893488147419103256, a0, a1, a2, 73786976294838206464, F3 24 15]) rfl ?_
      exact dk_64_53T T5 ha0 ha1 ha2 (T5.i (k := 24) 15 rfl (by decide) rfl) h
    · replace h := od_neg h h2
      refine wq_aload_n rfl rfl rfl ?_
      refine wq_aload_n rfl rfl rfl ?_
      refine xm_getR (v := 36893488147419103266) (q := 24) rfl rfl (by decide) (by decide) (hT.r (k := 24) 9 33 rfl (by decide) rfl) ?_
      refine wq_iload rfl rfl (hT.i (k := 24) 14 rfl (by decide) rfl) ?_
      obtain ⟨g6, h⟩ := od_gE h
      refine wq_iaload (q := 34) (n := 3001) rfl rfl (by decide) g6 (by decide) ?_
      obtain ⟨F7, e8, h⟩ := od_upE h
      refine xmE_put (q := 24) rfl rfl (by decide) (by decide) (wq_I (hT.ai (k := 34) rfl g6)) e8 ?_
      have T9 : xm_T F7 := wd_T e8 (hT.uf (k := 24) (f := 14) (c := 0) (v := F 34 (F 24 14)) rfl (by decide) rfl (show F 34 (F 24 14) < 4294967296 from (hT.ai (k := 34) rfl g6)))
      refine wq_goto rfl rfl ?_
      exact dk_64_53T T9 ha0 ha1 ha2 (hT.i (k := 24) 14 rfl (by decide) rfl) h
  · replace h := od_neg h (Nat.not_lt.mpr h1)
    refine wq_iconst rfl rfl ?_
    exact wq_iret rfl (wm_zlt (by decide)) rfl (wkOI h hT (wm_zlt (by decide)))
def dk_63_110 (n : Nat) (F : wq_F) (v1 : Nat) (v2 : Nat) (v3 : Nat) (v5 : Nat) (v9 : Nat) : Option (Nat × wq_F) :=
  if v9 = 0 then
    some (1, F)
  else
    if v5 = 0 then
      none
    else
      some (1, F)
theorem dk_63_110T {d n : Nat} : ∀ ⦃u6 : Nat⦄ ⦃u8 : Nat⦄ ⦃F : wq_F⦄ (hT : xm_T F) ⦃v1 : Nat⦄ (hv1 : v1 < 4294967296) ⦃v2 : Nat⦄ (hv2 : v2 < 4294967296) ⦃v3 : Nat⦄ (hv3 : ev_isL v3 = true) ⦃v5 : Nat⦄ (hv5 : v5 < 4294967296) ⦃v9 : Nat⦄ (hv9 : v9 < 2) (hu8 : ev_isL u8 = false) ⦃x : Nat × wq_F⦄ (h : dk_63_110 n F v1 v2 v3 v5 v9 = some x), wq (wq_cf (d + 1)) (ev_un al_mX9_put.2.2.2.2) (some .boolean) 110 [36893488147419103256, v1, v2, v3, 73786976294838206464, v5, u6, 73786976294838206464, u8, v9] [] xm_sh F 0 0 (wkZ xm_T xm_sh x) := by
  intro u6 u8 F hT v1 hv1 v2 hv2 v3 hv3 v5 hv5 v9 hv9 hu8 x h
  unfold dk_63_110 at h
  refine wq_iload rfl rfl (wm_zlt hv9) ?_
  refine wq_if_eq rfl rfl (wm_zlt hv9) (fun h1 => ?_) (fun h1 => ?_)
  · replace h := od_pos h h1
    refine wq_iconst rfl rfl ?_
    exact wq_iret rfl (wm_zlt (by decide)) (Nat.blt_eq.mpr (by decide)) (wkOZ h hT (by decide))
  · replace h := od_neg h h1
    refine wq_iload rfl rfl hv5 ?_
    refine wq_if_ne rfl rfl hv5 (fun h2 => ?_) (fun h2 => ?_)
    · replace h := od_neg h h2
      refine wq_iconst rfl rfl ?_
      exact wq_iret rfl (wm_zlt (by decide)) (Nat.blt_eq.mpr (by decide)) (wkOZ h hT (by decide))
    · replace h := od_pos h h2
      refine wq_aload_n rfl rfl rfl ?_
      refine wq_iload_n rfl rfl hv1 ?_
      refine wq_iload_n rfl rfl hv2 ?_
      refine wq_lload_n rfl rfl hv3 ?_
      exact nomatch h
def dk_63_52 (n : Nat) (F : wq_F) (v1 : Nat) (v2 : Nat) (v3 : Nat) (v5 : Nat) (v6 : Nat) (v8 : Nat) (s0 : Nat) : Option (Nat × wq_F) :=
  od_g (v8 < 3001) <|
  od_up F 30 v8 ((ev_b8 (ev_b8 v5))) fun F2 =>
  od_g (v8 < 3001) <|
  od_up F2 32 v8 ((v6 - 18446744073709551616)) fun F6 =>
  if v2 = 2 then
    if s0 = 0 then
      if v5 = 0 then
        dk_63_110 n F6 v1 v2 v3 v5 s0
      else
        od_g (v1 < 2001) <|
        od_let (ev_oAddL ((ev_oI2l (F6 27 v1)) - 18446744073709551616) (18446744073709551617 - 18446744073709551616)) fun y13 =>
        od_let (ev_oCmpL (v3 - 18446744073709551616) (y13 - 18446744073709551616)) fun y16 =>
        if y16 = 0 then
          none
        else
          dk_63_110 n F6 v1 v2 v3 v5 s0
    else
      dk_63_110 n F6 v1 v2 v3 v5 s0
  else
    dk_63_110 n F6 v1 v2 v3 v5 s0
theorem dk_63_52T {d n : Nat} : ∀ ⦃F : wq_F⦄ (hT : xm_T F) ⦃v1 : Nat⦄ (hv1 : v1 < 4294967296) ⦃v2 : Nat⦄ (hv2 : v2 < 4294967296) ⦃v3 : Nat⦄ (hv3 : ev_isL v3 = true) ⦃v5 : Nat⦄ (hv5 : v5 < 4294967296) ⦃v6 : Nat⦄ (hv6 : ev_isL v6 = true) ⦃v8 : Nat⦄ (hv8 : v8 < 4294967296) ⦃s0 : Nat⦄ (hs0 : s0 < 2) ⦃x : Nat × wq_F⦄ (h : dk_63_52 n F v1 v2 v3 v5 v6 v8 s0 = some x), wq (wq_cf (d + 1)) (ev_un al_mX9_put.2.2.2.2) (some .boolean) 52 [36893488147419103256, v1, v2, v3, 73786976294838206464, v5, v6, 73786976294838206464, v8, 73786976294838206464] [s0] xm_sh F 0 0 (wkZ xm_T xm_sh x) := by
  intro F hT v1 hv1 v2 hv2 v3 hv3 v5 hv5 v6 hv6 v8 hv8 s0 hs0 x h
  unfold dk_63_52 at h
  refine wq_istore rfl (wm_zlt hs0) (Nat.le_of_ble_eq_true rfl) (Or.inr ⟨_, rfl, (wq_notL hv8)⟩) (L' := [36893488147419103256, v1, v2, v3, 73786976294838206464, v5, v6, 73786976294838206464, v8, s0]) rfl ?_
  refine wq_aload_n rfl rfl rfl ?_
  refine xm_getR (v := 36893488147419103262) (q := 24) rfl rfl (by decide) (by decide) (hT.r (k := 24) 5 29 rfl (by decide) rfl) ?_
  refine wq_iload rfl rfl hv8 ?_
  refine wq_iload rfl rfl hv5 ?_
  refine wq_i2b rfl hv5 ?_
  obtain ⟨g1, h⟩ := od_gE h
  obtain ⟨F2, e3, h⟩ := od_upE h
  refine wd_bastore (q := 30) (n := 3001) rfl rfl (by decide) g1 (by decide) (ev_b8_lt _) e3 ?_
  have T4 : xm_T F2 := wd_T e3 (hT.ua (k := 30) (kd := 1001) (n := 3001) (i := v8) (v := (ev_b8 (ev_b8 v5))) rfl (by decide) g1 ⟨ev_b8_lt _, wm_b8b8 _⟩)
  refine wq_aload_n rfl rfl rfl ?_
  refine xm_getR (v := 36893488147419103264) (q := 24) rfl rfl (by decide) (by decide) (T4.r (k := 24) 7 31 rfl (by decide) rfl) ?_
  refine wq_iload rfl rfl hv8 ?_
  refine wq_lload rfl rfl hv6 ?_
  obtain ⟨g5, h⟩ := od_gE h
  obtain ⟨F6, e7, h⟩ := od_upE h
  refine wd_lastore (q := 32) (n := 3001) rfl rfl (by decide) g5 (by decide) hv6 e7 ?_
  have T8 : xm_T F6 := wd_T e7 (T4.ua (k := 32) (kd := 1010) (n := 3001) (i := v8) (v := (v6 - 18446744073709551616)) rfl (by decide) g5 (wm_subL hv6))
  refine wq_iload_n rfl rfl hv2 ?_
  refine wq_iconst rfl rfl ?_
  refine wq_ic_ne rfl rfl hv2 (by decide) (fun h9 => ?_) (fun h9 => ?_)
  · replace h := od_neg h h9
    exact dk_63_110T T8 hv1 hv2 hv3 hv5 hs0 (wq_notL hv8) h
  · replace h := od_pos h h9
    refine wq_iload rfl rfl (wm_zlt hs0) ?_
    refine wq_if_ne rfl rfl (wm_zlt hs0) (fun h10 => ?_) (fun h10 => ?_)
    · replace h := od_neg h h10
      exact dk_63_110T T8 hv1 hv2 hv3 hv5 hs0 (wq_notL hv8) h
    · replace h := od_pos h h10
      refine wq_iload rfl rfl hv5 ?_
      refine wq_if_eq rfl rfl hv5 (fun h11 => ?_) (fun h11 => ?_)
      · replace h := od_pos h h11
        exact dk_63_110T T8 hv1 hv2 hv3 hv5 hs0 (wq_notL hv8) h
      · replace h := od_neg h h11
        refine wq_lload_n rfl rfl hv3 ?_
        refine wq_aload_n rfl rfl rfl ?_
        refine xm_getR (v := 36893488147419103259) (q := 24) rfl rfl (by decide) (by decide) (T8.r (k := 24) 2 26 rfl (by decide) rfl) ?_
        refine wq_iload_n rfl rfl hv1 ?_
        obtain ⟨g12, h⟩ := od_gE h
        refine wq_iaload (q := 27) (n := 2001) rfl rfl (by decide) g12 (by decide) ?_
        refine wq_i2l rfl (T8.ai (k := 27) rfl g12) ?_
        refine wq_lconst rfl ?_
        refine wq_ladd rfl (wq_i2l_L (T8.ai (k := 27) rfl g12)) rfl ?_
        obtain ⟨y13, e14, h⟩ := od_letE h
        refine wq_top e14.symm ?_
        have p15 : ev_isL y13 = true := wd_ge e14 (wq_L_ladd (wq_i2l_L (T8.ai (k := 27) rfl g12)) rfl)
        refine wq_lcmp rfl hv3 p15 ?_
        obtain ⟨y16, e17, h⟩ := od_letE h
        refine wq_top e17.symm ?_
        have p18 : y16 < 4294967296 := wd_lt e17 (wq_oCmp_lt _ _)
        refine wq_if_ne rfl rfl p18 (fun h19 => ?_) (fun h19 => ?_)
        · replace h := od_neg h h19
          exact dk_63_110T T8 hv1 hv2 hv3 hv5 hs0 (wq_notL hv8) h
        · replace h := od_pos h h19
          refine wq_aload_n rfl rfl rfl ?_
          refine wq_iload_n rfl rfl hv1 ?_
          exact nomatch h
/-- X9_put -/
def dk_63 (n : Nat) (F : wq_F) (a0 : Nat) (a1 : Nat) (a2 : Nat) (a3 : Nat) (a4 : Nat) : Option (Nat × wq_F) :=
  (dk_62 n F a0 a1 a2).bind fun y1 =>
  if y1.1 = 0 then
    if a3 = 0 then
      some (1, y1.2)
    else
      (dk_64 y1.2 a0 a1 a2).bind fun y9 =>
      if y9.1 = 0 then
        some (0, y9.2)
      else
        od_g (y9.1 < 3001) <|
        if (y9.2 30 y9.1) = 0 then
          dk_63_52 n y9.2 a0 a1 a2 a3 a4 y9.1 0
        else
          dk_63_52 n y9.2 a0 a1 a2 a3 a4 y9.1 1
  else
    od_g (y1.1 < 3001) <|
    if (y1.2 30 y1.1) = 0 then
      dk_63_52 n y1.2 a0 a1 a2 a3 a4 y1.1 0
    else
      dk_63_52 n y1.2 a0 a1 a2 a3 a4 y1.1 1
theorem dkT_63 {d n : Nat} {F : wq_F} (hT : xm_T F) {a0 : Nat} (ha0 : a0 < 4294967296) {a1 : Nat} (ha1 : a1 < 4294967296) {a2 : Nat} (ha2 : ev_isL a2 = true) {a3 : Nat} (ha3 : a3 < 4294967296) {a4 : Nat} (ha4 : ev_isL a4 = true) {x : Nat × wq_F} (h : dk_63 n F a0 a1 a2 a3 a4 = some x) : mq (d + 1 + 1) 63 [36893488147419103256, a0, a1, a2, a3, a4] xm_sh F (wkZ xm_T xm_sh x) := by
  have e : ev_ent [36893488147419103256, a0, a1, a2, a3, a4] = [36893488147419103256, a0, a1, a2, 73786976294838206464, a3, a4, 73786976294838206464] := by
    show 36893488147419103256 :: ev_ent [a0, a1, a2, a3, a4] = _
    rw [wm_entI ha0, wm_entI ha1, wd_entL ha2, wm_entI ha3, wd_entL ha4]
    rfl
  refine mq_of (maxL := 10) (rt := (some .boolean)) (code := (ev_un al_mX9_put.2.2.2.2)) (L := [36893488147419103256, a0, a1, a2, 73786976294838206464, a3, a4, 73786976294838206464, 73786976294838206464, 73786976294838206464]) rfl (by rw [e]; exact Nat.le_of_ble_eq_true rfl) (by rw [e]; rfl) ?_
  unfold dk_63 at h
  refine wq_aload_n rfl rfl rfl ?_
  refine wq_iload_n rfl rfl ha0 ?_
  refine wq_iload_n rfl rfl ha1 ?_
  refine wq_lload_n rfl rfl ha2 ?_
  obtain ⟨y1, e2, h⟩ := od_bindE h
  refine wd_virtI (q := 24) (y := y1) (as := [36893488147419103256, a0, a1, a2]) rfl rfl rfl (by decide) (Nat.le_of_ble_eq_true rfl) (Nat.le_of_ble_eq_true rfl) rfl (Nat.le_of_ble_eq_true rfl) rfl (dkT_62 hT ha0 ha1 ha2 e2) (fun p3 T4 => ?_)
  refine wq_istore rfl p3 (Nat.le_of_ble_eq_true rfl) (Or.inr ⟨_, rfl, rfl⟩) (L' := [36893488147419103256, a0, a1, a2, 73786976294838206464, a3, a4, 73786976294838206464, y1.1, 73786976294838206464]) rfl ?_
  refine wq_iload rfl rfl p3 ?_
  refine wq_if_ne rfl rfl p3 (fun h5 => ?_) (fun h5 => ?_)
  · replace h := od_neg h h5
    refine wq_aload_n rfl rfl rfl ?_
    refine xm_getR (v := 36893488147419103262) (q := 24) rfl rfl (by decide) (by decide) (T4.r (k := 24) 5 29 rfl (by decide) rfl) ?_
    refine wq_iload rfl rfl p3 ?_
    obtain ⟨g6, h⟩ := od_gE h
    refine wq_baload (q := 30) (n := 3001) rfl rfl (by decide) g6 (by decide) ?_
    refine wq_if_eq rfl rfl (T4.ab (k := 30) rfl g6) (fun h7 => ?_) (fun h7 => ?_)
    · replace h := od_pos h h7
      refine wq_iconst rfl rfl ?_
      exact dk_63_52T T4 ha0 ha1 ha2 ha3 ha4 p3 (by decide) h
    · replace h := od_neg h h7
      refine wq_iconst rfl rfl ?_
      refine wq_goto rfl rfl ?_
      exact dk_63_52T T4 ha0 ha1 ha2 ha3 ha4 p3 (by decide) h
  · replace h := od_pos h h5
    refine wq_iload rfl rfl ha3 ?_
    refine wq_if_ne rfl rfl ha3 (fun h8 => ?_) (fun h8 => ?_)
    · replace h := od_neg h h8
      refine wq_aload_n rfl rfl rfl ?_
      refine wq_iload_n rfl rfl ha0 ?_
      refine wq_iload_n rfl rfl ha1 ?_
      refine wq_lload_n rfl rfl ha2 ?_
      obtain ⟨y9, e10, h⟩ := od_bindE h
      refine wd_virtI (q := 24) (y := y9) (as := [36893488147419103256, a0, a1, a2]) rfl rfl rfl (by decide) (Nat.le_of_ble_eq_true rfl) (Nat.le_of_ble_eq_true rfl) rfl (Nat.le_of_ble_eq_true rfl) rfl (dkT_64 T4 ha0 ha1 ha2 e10) (fun p11 T12 => ?_)
      refine wq_istore rfl p11 (Nat.le_of_ble_eq_true rfl) (Or.inr ⟨_, rfl, rfl⟩) (L' := [36893488147419103256, a0, a1, a2, 73786976294838206464, a3, a4, 73786976294838206464, y9.1, 73786976294838206464]) rfl ?_
      refine wq_iload rfl rfl p11 ?_
      refine wq_if_ne rfl rfl p11 (fun h13 => ?_) (fun h13 => ?_)
      · replace h := od_neg h h13
        refine wq_aload_n rfl rfl rfl ?_
        refine xm_getR (v := 36893488147419103262) (q := 24) rfl rfl (by decide) (by decide) (T12.r (k := 24) 5 29 rfl (by decide) rfl) ?_
        refine wq_iload rfl rfl p11 ?_
        obtain ⟨g14, h⟩ := od_gE h
        refine wq_baload (q := 30) (n := 3001) rfl rfl (by decide) g14 (by decide) ?_
        refine wq_if_eq rfl rfl (T12.ab (k := 30) rfl g14) (fun h15 => ?_) (fun h15 => ?_)
        · replace h := od_pos h h15
          refine wq_iconst rfl rfl ?_
          exact dk_63_52T T12 ha0 ha1 ha2 ha3 ha4 p11 (by decide) h
        · replace h := od_neg h h15
          refine wq_iconst rfl rfl ?_
          refine wq_goto rfl rfl ?_
          exact dk_63_52T T12 ha0 ha1 ha2 ha3 ha4 p11 (by decide) h
      · replace h := od_pos h h13
        refine wq_iconst rfl rfl ?_
        exact wq_iret rfl (wm_zlt (by decide)) (Nat.blt_eq.mpr (by decide)) (wkOZ h T12 (by decide))
    · replace h := od_pos h h8
      refine wq_iconst rfl rfl ?_
      exact wq_iret rfl (wm_zlt (by decide)) (Nat.blt_eq.mpr (by decide)) (wkOZ h T4 (by decide))
/-- X5_open -/
def dk_69 (F : wq_F) (a0 : Nat) (a1 : Nat) : Option (Nat × wq_F) :=
  od_up F 46 12 a0 fun F1 =>
  od_up F1 46 11 a1 fun F4 =>
  od_up F4 46 2 0 fun F7 =>
  od_up F7 46 10 0 fun F10 =>
  od_up F10 46 14 4294967295 fun F13 =>
  od_up F13 46 15 0 fun F16 =>
  some (0, F16)
theorem dkT_69 {d : Nat} {F : wq_F} (hT : xm_T F) {a0 : Nat} (ha0 : a0 < 4294967296) {a1 : Nat} (ha1 : a1 < 4294967296) {x : Nat × wq_F} (h : dk_69 F a0 a1 = some x) : mq (d + 0 + 1) 69 [36893488147419103278, a0, a1] xm_sh F (wkN xm_T xm_sh x) := by
  have e : ev_ent [36893488147419103278, a0, a1] = [36893488147419103278, a0, a1] := by
    show 36893488147419103278 :: ev_ent [a0, a1] = _
    rw [wm_entI ha0, wm_entI ha1]
    rfl
  refine mq_of (maxL := 3) (rt := none) (code := (ev_un al_mX5_open.2.2.2.2)) (L := [36893488147419103278, a0, a1]) rfl (by rw [e]; exact Nat.le_of_ble_eq_true rfl) (by rw [e]; rfl) ?_
  unfold dk_69 at h
  refine wq_aload_n rfl rfl rfl ?_
  refine wq_iload_n rfl rfl ha0 ?_
  obtain ⟨F1, e2, h⟩ := od_upE h
  refine xmE_put (q := 46) rfl rfl (by decide) (by decide) (wq_I ha0) e2 ?_
  have T3 : xm_T F1 := wd_T e2 (hT.uf (k := 46) (f := 12) (c := 0) (v := a0) rfl (by decide) rfl (show a0 < 4294967296 from ha0))
  refine wq_aload_n rfl rfl rfl ?_
  refine wq_iload_n rfl rfl ha1 ?_
  obtain ⟨F4, e5, h⟩ := od_upE h
  refine xmE_put (q := 46) rfl rfl (by decide) (by decide) (wq_I ha1) e5 ?_
  have T6 : xm_T F4 := wd_T e5 (T3.uf (k := 46) (f := 11) (c := 0) (v := a1) rfl (by decide) rfl (show a1 < 4294967296 from ha1))
  refine wq_aload_n rfl rfl rfl ?_
  refine wq_iconst rfl rfl ?_
  obtain ⟨F7, e8, h⟩ := od_upE h
  refine xmE_put (q := 46) rfl rfl (by decide) (by decide) (wq_I (wm_zlt (by decide))) e8 ?_
  have T9 : xm_T F7 := wd_T e8 (T6.uf (k := 46) (f := 2) (c := 0) (v := 0) rfl (by decide) rfl (show 0 < 4294967296 from (wm_zlt (by decide))))
  refine wq_aload_n rfl rfl rfl ?_
  refine wq_iconst rfl rfl ?_
  obtain ⟨F10, e11, h⟩ := od_upE h
  refine xmE_put (q := 46) rfl rfl (by decide) (by decide) (wq_I (wm_zlt (by decide))) e11 ?_
  have T12 : xm_T F10 := wd_T e11 (T9.uf (k := 46) (f := 10) (c := 0) (v := 0) rfl (by decide) rfl (show 0 < 4294967296 from (wm_zlt (by decide))))
  refine wq_aload_n rfl rfl rfl ?_
  refine wq_iconst rfl rfl ?_
  obtain ⟨F13, e14, h⟩ := od_upE h
  refine xmE_put (q := 46) rfl rfl (by decide) (by decide) (wq_I (by decide)) e14 ?_
  have T15 : xm_T F13 := wd_T e14 (T12.uf (k := 46) (f := 14) (c := 0) (v := 4294967295) rfl (by decide) rfl (show 4294967295 < 4294967296 from (by decide)))
  refine wq_aload_n rfl rfl rfl ?_
  refine wq_iconst rfl rfl ?_
  obtain ⟨F16, e17, h⟩ := od_upE h
  refine xmE_put (q := 46) rfl rfl (by decide) (by decide) (wq_I (wm_zlt (by decide))) e17 ?_
  have T18 : xm_T F16 := wd_T e17 (T15.uf (k := 46) (f := 15) (c := 0) (v := 0) rfl (by decide) rfl (show 0 < 4294967296 from (wm_zlt (by decide))))
  exact wq_ret rfl (wkON h T18)
/-- X3_make -/
def dk_67 (F : wq_F) (a0 : Nat) : Option (Nat × wq_F) :=
  if ev_s (F 38 3) < ev_s 2000 then
    od_up F 38 3 (((F 38 3) + 1) % 4294967296) fun F2 =>
    od_g (F2 38 3 < 2001) <|
    od_up F2 39 (F2 38 3) ((ev_b8 (ev_b8 a0))) fun F6 =>
    od_g (F6 38 3 < 2001) <|
    od_up F6 41 (F6 38 3) (F6 38 6) fun F10 =>
    some (F10 38 3, F10)
  else
    some (0, F)
theorem dkT_67 {d : Nat} {F : wq_F} (hT : xm_T F) {a0 : Nat} (ha0 : a0 < 4294967296) {x : Nat × wq_F} (h : dk_67 F a0 = some x) : mq (d + 0 + 1) 67 [36893488147419103270, a0] xm_sh F (wkI xm_T xm_sh x) := by
  have e : ev_ent [36893488147419103270, a0] = [36893488147419103270, a0] := by
    show 36893488147419103270 :: ev_ent [a0] = _
    rw [wm_entI ha0]
    rfl
  refine mq_of (maxL := 2) (rt := (some .int)) (code := (ev_un al_mX3_make.2.2.2.2)) (L := [36893488147419103270, a0]) rfl (by rw [e]; exact Nat.le_of_ble_eq_true rfl) (by rw [e]; rfl) ?_
  unfold dk_67 at h
  refine wq_aload_n rfl rfl rfl ?_
  refine xm_getI (q := 38) rfl rfl (by decide) (by decide) ?_
  refine wq_sipush rfl rfl ?_
  refine wq_ic_lt rfl rfl (hT.i (k := 38) 3 rfl (by decide) rfl) (by decide) (fun h1 => ?_) (fun h1 => ?_)
  · replace h := od_pos h h1
    refine wq_aload_n rfl rfl rfl ?_
    refine wq_dup rfl rfl ?_
    refine xm_getI (q := 38) rfl rfl (by decide) (by decide) ?_
    refine wq_iconst rfl rfl ?_
    refine wq_iaddZ rfl (hT.i (k := 38) 3 rfl (by decide) rfl) (wm_zlt (by decide)) (z := ((F 38 3) + 1) % 4294967296) rfl ?_
    obtain ⟨F2, e3, h⟩ := od_upE h
    refine xmE_put (q := 38) rfl rfl (by decide) (by decide) (wq_I (Nat.mod_lt _ (by decide))) e3 ?_
    have T4 : xm_T F2 := wd_T e3 (hT.uf (k := 38) (f := 3) (c := 0) (v := ((F 38 3) + 1) % 4294967296) rfl (by decide) rfl (show ((F 38 3) + 1) % 4294967296 < 4294967296 from (Nat.mod_lt _ (by decide))))
    refine wq_aload_n rfl rfl rfl ?_
    refine xm_getR (v := 36893488147419103271) (q := 38) rfl rfl (by decide) (by decide) (T4.r (k := 38) 0 38 rfl (by decide) rfl) ?_
    refine wq_aload_n rfl rfl rfl ?_
    refine xm_getI (q := 38) rfl rfl (by decide) (by decide) ?_
    refine wq_iload_n rfl rfl ha0 ?_
    refine wq_i2b rfl ha0 ?_
    obtain ⟨g5, h⟩ := od_gE h
    obtain ⟨F6, e7, h⟩ := od_upE h
    refine wd_bastore (q := 39) (n := 2001) rfl rfl (by decide) g5 (by decide) (ev_b8_lt _) e7 ?_
    have T8 : xm_T F6 := wd_T e7 (T4.ua (k := 39) (kd := 1001) (n := 2001) (i := F2 38 3) (v := (ev_b8 (ev_b8 a0))) rfl (by decide) g5 ⟨ev_b8_lt _, wm_b8b8 _⟩)
    refine wq_aload_n rfl rfl rfl ?_
    refine xm_getR (v := 36893488147419103273) (q := 38) rfl rfl (by decide) (by decide) (T8.r (k := 38) 2 40 rfl (by decide) rfl) ?_
    refine wq_aload_n rfl rfl rfl ?_
    refine xm_getI (q := 38) rfl rfl (by decide) (by decide) ?_
    refine wq_aload_n rfl rfl rfl ?_
    refine xm_getI (q := 38) rfl rfl (by decide) (by decide) ?_
    obtain ⟨g9, h⟩ := od_gE h
    obtain ⟨F10, e11, h⟩ := od_upE h
    refine wd_iastore (q := 41) (n := 2001) rfl rfl (by decide) g9 (by decide) (T8.i (k := 38) 6 rfl (by decide) rfl) e11 ?_
    have T12 : xm_T F10 := wd_T e11 (T8.ua (k := 41) (kd := 1000) (n := 2001) (i := F6 38 3) (v := F6 38 6) rfl (by decide) g9 (show F6 38 6 < 4294967296 from (T8.i (k := 38) 6 rfl (by decide) rfl)))
    refine wq_aload_n rfl rfl rfl ?_
    refine xm_getI (q := 38) rfl rfl (by decide) (by decide) ?_
    exact wq_iret rfl (T12.i (k := 38) 3 rfl (by decide) rfl) rfl (wkOI h T12 (T12.i (k := 38) 3 rfl (by decide) rfl))
  · replace h := od_neg h (Nat.not_lt.mpr h1)
    refine wq_iconst rfl rfl ?_
    exact wq_iret rfl (wm_zlt (by decide)) rfl (wkOI h hT (wm_zlt (by decide)))
/-- X5_enter -/
def dk_70 (F : wq_F) (a0 : Nat) (a1 : Nat) (a2 : Nat) (a3 : Nat) (a4 : Nat) (a5 : Nat) (a6 : Nat) : Option (Nat × wq_F) :=
  od_up F 46 10 (((F 46 10) + 1) % 4294967296) fun F1 =>
  od_g (F1 46 10 < 21) <|
  od_up F1 49 (F1 46 10) a0 fun F5 =>
  od_g (F5 46 10 < 21) <|
  od_up F5 50 (F5 46 10) a1 fun F9 =>
  od_g (F9 46 10 < 21) <|
  od_up F9 51 (F9 46 10) a2 fun F13 =>
  od_g (F13 46 10 < 21) <|
  od_up F13 52 (F13 46 10) a3 fun F17 =>
  od_g (F17 46 10 < 21) <|
  od_up F17 53 (F17 46 10) a4 fun F21 =>
  od_g (F21 46 10 < 21) <|
  od_up F21 54 (F21 46 10) a5 fun F25 =>
  od_g (F25 46 10 < 21) <|
  od_up F25 55 (F25 46 10) a6 fun F29 =>
  some (0, F29)
theorem dkT_70 {d : Nat} {F : wq_F} (hT : xm_T F) {a0 : Nat} (ha0 : a0 < 4294967296) {a1 : Nat} (ha1 : a1 < 4294967296) {a2 : Nat} (ha2 : a2 < 4294967296) {a3 : Nat} (ha3 : a3 < 4294967296) {a4 : Nat} (ha4 : a4 < 4294967296) {a5 : Nat} (ha5 : a5 < 4294967296) {a6 : Nat} (ha6 : a6 < 4294967296) {x : Nat × wq_F} (h : dk_70 F a0 a1 a2 a3 a4 a5 a6 = some x) : mq (d + 0 + 1) 70 [36893488147419103278, a0, a1, a2, a3, a4, a5, a6] xm_sh F (wkN xm_T xm_sh x) := by
  have e : ev_ent [36893488147419103278, a0, a1, a2, a3, a4, a5, a6] = [36893488147419103278, a0, a1, a2, a3, a4, a5, a6] := by
    show 36893488147419103278 :: ev_ent [a0, a1, a2, a3, a4, a5, a6] = _
    rw [wm_entI ha0, wm_entI ha1, wm_entI ha2, wm_entI ha3, wm_entI ha4, wm_entI ha5, wm_entI ha6]
    rfl
  refine mq_of (maxL := 8) (rt := none) (code := (ev_un al_mX5_enter.2.2.2.2)) (L := [36893488147419103278, a0, a1, a2, a3, a4, a5, a6]) rfl (by rw [e]; exact Nat.le_of_ble_eq_true rfl) (by rw [e]; rfl) ?_
  unfold dk_70 at h
  refine wq_aload_n rfl rfl rfl ?_
  refine wq_dup rfl rfl ?_
  refine xm_getI (q := 46) rfl rfl (by decide) (by decide) ?_
  refine wq_iconst rfl rfl ?_
  refine wq_iaddZ rfl (hT.i (k := 46) 10 rfl (by decide) rfl) (wm_zlt (by decide)) (z := ((F 46 10) + 1) % 4294967296) rfl ?_
  obtain ⟨F1, e2, h⟩ := od_upE h
  refine xmE_put (q := 46) rfl rfl (by decide) (by decide) (wq_I (Nat.mod_lt _ (by decide))) e2 ?_
  have T3 : xm_T F1 := wd_T e2 (hT.uf (k := 46) (f := 10) (c := 0) (v := ((F 46 10) + 1) % 4294967296) rfl (by decide) rfl (show ((F 46 10) + 1) % 4294967296 < 4294967296 from (Nat.mod_lt _ (by decide))))
  refine wq_aload_n rfl rfl rfl ?_
  refine xm_getR (v := 36893488147419103281) (q := 46) rfl rfl (by decide) (by decide) (T3.r (k := 46) 3 48 rfl (by decide) rfl) ?_
  refine wq_aload_n rfl rfl rfl ?_
  refine xm_getI (q := 46) rfl rfl (by decide) (by decide) ?_
  refine wq_iload_n rfl rfl ha0 ?_
  obtain ⟨g4, h⟩ := od_gE h
  obtain ⟨F5, e6, h⟩ := od_upE h
  refine wd_iastore (q := 49) (n := 21) rfl rfl (by decide) g4 (by decide) ha0 e6 ?_
  have T7 : xm_T F5 := wd_T e6 (T3.ua (k := 49) (kd := 1000) (n := 21) (i := F1 46 10) (v := a0) rfl (by decide) g4 (show a0 < 4294967296 from ha0))
  refine wq_aload_n rfl rfl rfl ?_
  refine xm_getR (v := 36893488147419103282) (q := 46) rfl rfl (by decide) (by decide) (T7.r (k := 46) 4 49 rfl (by decide) rfl) ?_
  refine wq_aload_n rfl rfl rfl ?_
  refine xm_getI (q := 46) rfl rfl (by decide) (by decide) ?_
  refine wq_iload_n rfl rfl ha1 ?_
  obtain ⟨g8, h⟩ := od_gE h
  obtain ⟨F9, e10, h⟩ := od_upE h
  refine wd_iastore (q := 50) (n := 21) rfl rfl (by decide) g8 (by decide) ha1 e10 ?_
  have T11 : xm_T F9 := wd_T e10 (T7.ua (k := 50) (kd := 1000) (n := 21) (i := F5 46 10) (v := a1) rfl (by decide) g8 (show a1 < 4294967296 from ha1))
  refine wq_aload_n rfl rfl rfl ?_
  refine xm_getR (v := 36893488147419103283) (q := 46) rfl rfl (by decide) (by decide) (T11.r (k := 46) 5 50 rfl (by decide) rfl) ?_
  refine wq_aload_n rfl rfl rfl ?_
  refine xm_getI (q := 46) rfl rfl (by decide) (by decide) ?_
  refine wq_iload_n rfl rfl ha2 ?_
  obtain ⟨g12, h⟩ := od_gE h
  obtain ⟨F13, e14, h⟩ := od_upE h
  refine wd_iastore (q := 51) (n := 21) rfl rfl (by decide) g12 (by decide) ha2 e14 ?_
  have T15 : xm_T F13 := wd_T e14 (T11.ua (k := 51) (kd := 1000) (n := 21) (i := F9 46 10) (v := a2) rfl (by decide) g12 (show a2 < 4294967296 from ha2))
  refine wq_aload_n rfl rfl rfl ?_
  refine xm_getR (v := 36893488147419103284) (q := 46) rfl rfl (by decide) (by decide) (T15.r (k := 46) 6 51 rfl (by decide) rfl) ?_
  refine wq_aload_n rfl rfl rfl ?_
  refine xm_getI (q := 46) rfl rfl (by decide) (by decide) ?_
  refine wq_iload rfl rfl ha3 ?_
  obtain ⟨g16, h⟩ := od_gE h
  obtain ⟨F17, e18, h⟩ := od_upE h
  refine wd_iastore (q := 52) (n := 21) rfl rfl (by decide) g16 (by decide) ha3 e18 ?_
  have T19 : xm_T F17 := wd_T e18 (T15.ua (k := 52) (kd := 1000) (n := 21) (i := F13 46 10) (v := a3) rfl (by decide) g16 (show a3 < 4294967296 from ha3))
  refine wq_aload_n rfl rfl rfl ?_
  refine xm_getR (v := 36893488147419103285) (q := 46) rfl rfl (by decide) (by decide) (T19.r (k := 46) 7 52 rfl (by decide) rfl) ?_
  refine wq_aload_n rfl rfl rfl ?_
  refine xm_getI (q := 46) rfl rfl (by decide) (by decide) ?_
  refine wq_iload rfl rfl ha4 ?_
  obtain ⟨g20, h⟩ := od_gE h
  obtain ⟨F21, e22, h⟩ := od_upE h
  refine wd_iastore (q := 53) (n := 21) rfl rfl (by decide) g20 (by decide) ha4 e22 ?_
  have T23 : xm_T F21 := wd_T e22 (T19.ua (k := 53) (kd := 1000) (n := 21) (i := F17 46 10) (v := a4) rfl (by decide) g20 (show a4 < 4294967296 from ha4))
  refine wq_aload_n rfl rfl rfl ?_
  refine xm_getR (v := 36893488147419103286) (q := 46) rfl rfl (by decide) (by decide) (T23.r (k := 46) 8 53 rfl (by decide) rfl) ?_
  refine wq_aload_n rfl rfl rfl ?_
  refine xm_getI (q := 46) rfl rfl (by decide) (by decide) ?_
  refine wq_iload rfl rfl ha5 ?_
  obtain ⟨g24, h⟩ := od_gE h
  obtain ⟨F25, e26, h⟩ := od_upE h
  refine wd_iastore (q := 54) (n := 21) rfl rfl (by decide) g24 (by decide) ha5 e26 ?_
  have T27 : xm_T F25 := wd_T e26 (T23.ua (k := 54) (kd := 1000) (n := 21) (i := F21 46 10) (v := a5) rfl (by decide) g24 (show a5 < 4294967296 from ha5))
  refine wq_aload_n rfl rfl rfl ?_
  refine xm_getR (v := 36893488147419103287) (q := 46) rfl rfl (by decide) (by decide) (T27.r (k := 46) 9 54 rfl (by decide) rfl) ?_
  refine wq_aload_n rfl rfl rfl ?_
  refine xm_getI (q := 46) rfl rfl (by decide) (by decide) ?_
  refine wq_iload rfl rfl ha6 ?_
  obtain ⟨g28, h⟩ := od_gE h
  obtain ⟨F29, e30, h⟩ := od_upE h
  refine wd_iastore (q := 55) (n := 21) rfl rfl (by decide) g28 (by decide) ha6 e30 ?_
  have T31 : xm_T F29 := wd_T e30 (T27.ua (k := 55) (kd := 1000) (n := 21) (i := F25 46 10) (v := a6) rfl (by decide) g28 (show a6 < 4294967296 from ha6))
  exact wq_ret rfl (wkON h T31)
/-- X0_clear -/
def dk_86 (F : wq_F) : Option (Nat × wq_F) :=
  (dk_105 F 0).bind fun y1 =>
  od_up y1.2 67 11 0 fun F4 =>
  od_up F4 67 13 0 fun F7 =>
  od_up F7 67 14 0 fun F10 =>
  some (0, F10)
theorem dkT_86 {d : Nat} {F : wq_F} (hT : xm_T F) {x : Nat × wq_F} (h : dk_86 F = some x) : mq (d + 1 + 1) 86 [36893488147419103299] xm_sh F (wkN xm_T xm_sh x) := by
  have e : ev_ent [36893488147419103299] = [36893488147419103299] := by
    rfl
  refine mq_of (maxL := 1) (rt := none) (code := (ev_un al_mX0_clear.2.2.2.2)) (L := [36893488147419103299]) rfl (by rw [e]; exact Nat.le_of_ble_eq_true rfl) (by rw [e]; rfl) ?_
  unfold dk_86 at h
  refine wq_aload_n rfl rfl rfl ?_
  refine xm_getR (v := 36893488147419103304) (q := 67) rfl rfl (by decide) (by decide) (hT.r (k := 67) 9 71 rfl (by decide) rfl) ?_
  refine wq_iconst rfl rfl ?_
  obtain ⟨y1, e2, h⟩ := od_bindE h
  refine wd_statN (y := y1) (as := [36893488147419103304, 0]) rfl (by decide) (Nat.le_of_ble_eq_true rfl) rfl (Nat.le_of_ble_eq_true rfl) rfl (dkT_105 hT (wm_zlt (by decide)) e2) (fun T3 => ?_)
  refine wq_aload_n rfl rfl rfl ?_
  refine wq_iconst rfl rfl ?_
  obtain ⟨F4, e5, h⟩ := od_upE h
  refine xmE_put (q := 67) rfl rfl (by decide) (by decide) (wq_I (wm_zlt (by decide))) e5 ?_
  have T6 : xm_T F4 := wd_T e5 (T3.uf (k := 67) (f := 11) (c := 0) (v := 0) rfl (by decide) rfl (show 0 < 4294967296 from (wm_zlt (by decide))))
  refine wq_aload_n rfl rfl rfl ?_
  refine wq_iconst rfl rfl ?_
  obtain ⟨F7, e8, h⟩ := od_upE h
  refine xmE_put (q := 67) rfl rfl (by decide) (by decide) (wq_I (wm_zlt (by decide))) e8 ?_
  have T9 : xm_T F7 := wd_T e8 (T6.uf (k := 67) (f := 13) (c := 0) (v := 0) rfl (by decide) rfl (show 0 < 4294967296 from (wm_zlt (by decide))))
  refine wq_aload_n rfl rfl rfl ?_
  refine wq_iconst rfl rfl ?_
  obtain ⟨F10, e11, h⟩ := od_upE h
  refine xmE_put (q := 67) rfl rfl (by decide) (by decide) (wq_I (wm_zlt (by decide))) e11 ?_
  have T12 : xm_T F10 := wd_T e11 (T9.uf (k := 67) (f := 14) (c := 0) (v := 0) rfl (by decide) rfl (show 0 < 4294967296 from (wm_zlt (by decide))))
  exact wq_ret rfl (wkON h T12)
/-- X1_newTable -/
def dk_92 (F : wq_F) : Option (Nat × wq_F) :=
  (dk_67 F 4).bind fun y1 =>
  if y1.1 = 0 then
    some (y1.1, y1.2)
  else
    (dk_61 y1.2 y1.1).bind fun y6 =>
    some (y1.1, y6.2)
theorem dkT_92 {d : Nat} {F : wq_F} (hT : xm_T F) {x : Nat × wq_F} (h : dk_92 F = some x) : mq (d + 1 + 1) 92 [36893488147419103308] xm_sh F (wkI xm_T xm_sh x) := by
  have e : ev_ent [36893488147419103308] = [36893488147419103308] := by
    rfl
  refine mq_of (maxL := 2) (rt := (some .int)) (code := (ev_un al_mX1_newTable.2.2.2.2)) (L := [36893488147419103308, 73786976294838206464]) rfl (by rw [e]; exact Nat.le_of_ble_eq_true rfl) (by rw [e]; rfl) ?_
  unfold dk_92 at h
  refine wq_aload_n rfl rfl rfl ?_
  refine xm_getR (v := 36893488147419103270) (q := 76) rfl rfl (by decide) (by decide) (hT.r (k := 76) 2 37 rfl (by decide) rfl) ?_
  refine wq_iconst rfl rfl ?_
  obtain ⟨y1, e2, h⟩ := od_bindE h
  refine wd_virtI (q := 38) (y := y1) (as := [36893488147419103270, 4]) rfl rfl rfl (by decide) (Nat.le_of_ble_eq_true rfl) (Nat.le_of_ble_eq_true rfl) rfl (Nat.le_of_ble_eq_true rfl) rfl (dkT_67 hT (by decide) e2) (fun p3 T4 => ?_)
  refine wq_istore_n rfl p3 (Nat.le_of_ble_eq_true rfl) (Or.inr ⟨_, rfl, rfl⟩) (L' := [36893488147419103308, y1.1]) rfl ?_
  refine wq_iload_n rfl rfl p3 ?_
  refine wq_if_eq rfl rfl p3 (fun h5 => ?_) (fun h5 => ?_)
  · replace h := od_pos h h5
    refine wq_iload_n rfl rfl p3 ?_
    exact wq_iret rfl p3 rfl (wkOI h T4 p3)
  · replace h := od_neg h h5
    refine wq_aload_n rfl rfl rfl ?_
    refine xm_getR (v := 36893488147419103256) (q := 76) rfl rfl (by decide) (by decide) (T4.r (k := 76) 1 23 rfl (by decide) rfl) ?_
    refine wq_iload_n rfl rfl p3 ?_
    obtain ⟨y6, e7, h⟩ := od_bindE h
    refine wd_virtN (q := 24) (y := y6) (as := [36893488147419103256, y1.1]) rfl rfl rfl (by decide) (Nat.le_of_ble_eq_true rfl) (Nat.le_of_ble_eq_true rfl) rfl (Nat.le_of_ble_eq_true rfl) rfl (dkT_61 T4 p3 e7) (fun T9 => ?_)
    refine wq_iload_n rfl rfl p3 ?_
    exact wq_iret rfl p3 rfl (wkOI h T9 p3)
def dk_91_92b (n : Nat) (r92 : wq_F → Nat → Option (Nat × wq_F)) (F : wq_F) (v1 : Nat) : Option (Nat × wq_F) :=
  if ev_s 3 < ev_s v1 then
    some (0, F)
  else
    od_g (v1 < 4) <|
    (dk_63 n F 0 3 (ev_oI2l (F 79 v1)) 4 (ev_oI2l v1)).bind fun y3 =>
    od_let ((v1 + 1) % 4294967296) fun y7 =>
    r92 y3.2 y7
theorem dk_91_92bT {d n : Nat} {r92 : wq_F → Nat → Option (Nat × wq_F)} (hr92 : ∀ ⦃u2 : Nat⦄ ⦃F : wq_F⦄ (hT : xm_T F) ⦃v1 : Nat⦄ (hv1 : v1 < 4294967296) (hu2 : ev_isL u2 = false) ⦃x : Nat × wq_F⦄ (h : r92 F v1 = some x), wq (wq_cf (d + 2)) (ev_un al_mX1_furnish.2.2.2.2) none 92 [36893488147419103308, v1, u2] [] xm_sh F 0 0 (wkN xm_T xm_sh x)) : ∀ ⦃u2 : Nat⦄ ⦃F : wq_F⦄ (hT : xm_T F) ⦃v1 : Nat⦄ (hv1 : v1 < 4294967296) (hu2 : ev_isL u2 = false) ⦃x : Nat × wq_F⦄ (h : dk_91_92b n r92 F v1 = some x), wq (wq_cf (d + 2)) (ev_un al_mX1_furnish.2.2.2.2) none 92 [36893488147419103308, v1, u2] [] xm_sh F 0 0 (wkN xm_T xm_sh x) := by
  intro u2 F hT v1 hv1 hu2 x h
  unfold dk_91_92b at h
  refine wq_iload_n rfl rfl hv1 ?_
  refine wq_iconst rfl rfl ?_
  refine wq_ic_gt rfl rfl hv1 (by decide) (fun h1 => ?_) (fun h1 => ?_)
  · replace h := od_pos h h1
    exact wq_ret rfl (wkON h hT)
  · replace h := od_neg h (Nat.not_lt.mpr h1)
    refine wq_aload_n rfl rfl rfl ?_
    refine xm_getR (v := 36893488147419103256) (q := 76) rfl rfl (by decide) (by decide) (hT.r (k := 76) 1 23 rfl (by decide) rfl) ?_
    refine wq_iconst rfl rfl ?_
    refine wq_iconst rfl rfl ?_
    refine wq_aload_n rfl rfl rfl ?_
    refine xm_getR (v := 36893488147419103311) (q := 76) rfl rfl (by decide) (by decide) (hT.r (k := 76) 6 78 rfl (by decide) rfl) ?_
    refine wq_iload_n rfl rfl hv1 ?_
    obtain ⟨g2, h⟩ := od_gE h
    refine wq_iaload (q := 79) (n := 4) rfl rfl (by decide) g2 (by decide) ?_
    refine wq_i2l rfl (hT.ai (k := 79) rfl g2) ?_
    refine wq_iconst rfl rfl ?_
    refine wq_iload_n rfl rfl hv1 ?_
    refine wq_i2l rfl hv1 ?_
    obtain ⟨y3, e4, h⟩ := od_bindE h
    refine wd_virtZ (q := 24) (y := y3) (as := [36893488147419103256, 0, 3, ev_oI2l (F 79 v1), 4, ev_oI2l v1]) rfl rfl rfl (by decide) (Nat.le_of_ble_eq_true rfl) (Nat.le_of_ble_eq_true rfl) rfl (Nat.le_of_ble_eq_true rfl) rfl (dkT_63 hT (wm_zlt (by decide)) (by decide) (wq_i2l_L (hT.ai (k := 79) rfl g2)) (by decide) (wq_i2l_L hv1) e4) (fun p5 T6 => ?_)
    refine wq_pop rfl (wq_notL (wm_zlt p5)) ?_
    obtain ⟨y7, e8, h⟩ := od_letE h
    have p9 : y7 < 4294967296 := wd_lt e8 (Nat.mod_lt _ (by decide))
    refine wq_iincZ rfl rfl hv1 (Or.inr ⟨_, rfl, rfl⟩) rfl (z := y7) e8.symm (L' := [36893488147419103308, y7, u2]) rfl ?_
    refine wq_goto rfl rfl ?_
    exact hr92 T6 p9 hu2 h
def dk_91_92 (n : Nat) : Nat → wq_F → Nat → Option (Nat × wq_F)
  | 0 => fun _ _ => none
  | g + 1 => dk_91_92b n (dk_91_92 n g)
theorem dk_91_92T {d n : Nat} : ∀ g : Nat, ∀ ⦃u2 : Nat⦄ ⦃F : wq_F⦄ (hT : xm_T F) ⦃v1 : Nat⦄ (hv1 : v1 < 4294967296) (hu2 : ev_isL u2 = false) ⦃x : Nat × wq_F⦄ (h : dk_91_92 n g F v1 = some x), wq (wq_cf (d + 2)) (ev_un al_mX1_furnish.2.2.2.2) none 92 [36893488147419103308, v1, u2] [] xm_sh F 0 0 (wkN xm_T xm_sh x)
  | 0 => by
    intro u2 F hT v1 hv1 hu2 x h
    cases h
  | g + 1 => dk_91_92bT (dk_91_92T g)
def dk_91_62 (n : Nat) (r25 : wq_F → Nat → Option (Nat × wq_F)) (F : wq_F) (v1 : Nat) (s0 : Nat) : Option (Nat × wq_F) :=
  od_g (v1 < 33) <|
  (dk_63 n F s0 3 (ev_oI2l (F 78 v1)) 5 (ev_oI2l (ev_oNeg v1))).bind fun y2 =>
  od_let ((v1 + 1) % 4294967296) fun y6 =>
  r25 y2.2 y6
theorem dk_91_62T {d n : Nat} {r25 : wq_F → Nat → Option (Nat × wq_F)} (hr25 : ∀ ⦃u2 : Nat⦄ ⦃F : wq_F⦄ (hT : xm_T F) ⦃v1 : Nat⦄ (hv1 : v1 < 4294967296) (hu2 : ev_isL u2 = false) ⦃x : Nat × wq_F⦄ (h : r25 F v1 = some x), wq (wq_cf (d + 2)) (ev_un al_mX1_furnish.2.2.2.2) none 25 [36893488147419103308, v1, u2] [] xm_sh F 0 0 (wkN xm_T xm_sh x)) : ∀ ⦃u2 : Nat⦄ ⦃F : wq_F⦄ (hT : xm_T F) ⦃v1 : Nat⦄ (hv1 : v1 < 4294967296) ⦃s0 : Nat⦄ (hs0 : s0 < 4294967296) (hu2 : ev_isL u2 = false) ⦃x : Nat × wq_F⦄ (h : dk_91_62 n r25 F v1 s0 = some x), wq (wq_cf (d + 2)) (ev_un al_mX1_furnish.2.2.2.2) none 62 [36893488147419103308, v1, u2] [s0] xm_sh F 0 0 (wkN xm_T xm_sh x) := by
  intro u2 F hT v1 hv1 s0 hs0 hu2 x h
  unfold dk_91_62 at h
  refine wq_istore_n rfl hs0 (Nat.le_of_ble_eq_true rfl) (Or.inr ⟨_, rfl, (wq_notL hv1)⟩) (L' := [36893488147419103308, v1, s0]) rfl ?_
  refine wq_aload_n rfl rfl rfl ?_
  refine xm_getR (v := 36893488147419103256) (q := 76) rfl rfl (by decide) (by decide) (hT.r (k := 76) 1 23 rfl (by decide) rfl) ?_
  refine wq_iload_n rfl rfl hs0 ?_
  refine wq_iconst rfl rfl ?_
  refine wq_aload_n rfl rfl rfl ?_
  refine xm_getR (v := 36893488147419103310) (q := 76) rfl rfl (by decide) (by decide) (hT.r (k := 76) 5 77 rfl (by decide) rfl) ?_
  refine wq_iload_n rfl rfl hv1 ?_
  obtain ⟨g1, h⟩ := od_gE h
  refine wq_iaload (q := 78) (n := 33) rfl rfl (by decide) g1 (by decide) ?_
  refine wq_i2l rfl (hT.ai (k := 78) rfl g1) ?_
  refine wq_iconst rfl rfl ?_
  refine wq_iload_n rfl rfl hv1 ?_
  refine wq_ineg rfl hv1 ?_
  refine wq_i2l rfl (Nat.mod_lt _ (by decide)) ?_
  obtain ⟨y2, e3, h⟩ := od_bindE h
  refine wd_virtZ (q := 24) (y := y2) (as := [36893488147419103256, s0, 3, ev_oI2l (F 78 v1), 5, ev_oI2l (ev_oNeg v1)]) rfl rfl rfl (by decide) (Nat.le_of_ble_eq_true rfl) (Nat.le_of_ble_eq_true rfl) rfl (Nat.le_of_ble_eq_true rfl) rfl (dkT_63 hT hs0 (by decide) (wq_i2l_L (hT.ai (k := 78) rfl g1)) (by decide) (wq_i2l_L (Nat.mod_lt _ (by decide))) e3) (fun p4 T5 => ?_)
  refine wq_pop rfl (wq_notL (wm_zlt p4)) ?_
  obtain ⟨y6, e7, h⟩ := od_letE h
  have p8 : y6 < 4294967296 := wd_lt e7 (Nat.mod_lt _ (by decide))
  refine wq_iincZ rfl rfl hv1 (Or.inr ⟨_, rfl, rfl⟩) rfl (z := y6) e7.symm (L' := [36893488147419103308, y6, s0]) rfl ?_
  refine wq_goto rfl rfl ?_
  exact hr25 T5 p8 (wq_notL hs0) h
def dk_91_25b (n : Nat) (r25 : wq_F → Nat → Option (Nat × wq_F)) (F : wq_F) (v1 : Nat) : Option (Nat × wq_F) :=
  if ev_s v1 < ev_s 32 then
    if ev_s 17 < ev_s v1 then
      if ev_s 22 < ev_s v1 then
        if ev_s 26 < ev_s v1 then
          dk_91_62 n r25 F v1 3
        else
          dk_91_62 n r25 F v1 2
      else
        dk_91_62 n r25 F v1 1
    else
      dk_91_62 n r25 F v1 0
  else
    dk_91_92 n n F 1
theorem dk_91_25bT {d n : Nat} {r25 : wq_F → Nat → Option (Nat × wq_F)} (hr25 : ∀ ⦃u2 : Nat⦄ ⦃F : wq_F⦄ (hT : xm_T F) ⦃v1 : Nat⦄ (hv1 : v1 < 4294967296) (hu2 : ev_isL u2 = false) ⦃x : Nat × wq_F⦄ (h : r25 F v1 = some x), wq (wq_cf (d + 2)) (ev_un al_mX1_furnish.2.2.2.2) none 25 [36893488147419103308, v1, u2] [] xm_sh F 0 0 (wkN xm_T xm_sh x)) : ∀ ⦃u2 : Nat⦄ ⦃F : wq_F⦄ (hT : xm_T F) ⦃v1 : Nat⦄ (hv1 : v1 < 4294967296) (hu2 : ev_isL u2 = false) ⦃x : Nat × wq_F⦄ (h : dk_91_25b n r25 F v1 = some x), wq (wq_cf (d + 2)) (ev_un al_mX1_furnish.2.2.2.2) none 25 [36893488147419103308, v1, u2] [] xm_sh F 0 0 (wkN xm_T xm_sh x) := by
  intro u2 F hT v1 hv1 hu2 x h
  unfold dk_91_25b at h
  refine wq_iload_n rfl rfl hv1 ?_
  refine wq_bipush rfl rfl ?_
  refine wq_ic_ge rfl rfl hv1 (by decide) (fun h1 => ?_) (fun h1 => ?_)
  · replace h := od_neg h (Nat.not_lt.mpr h1)
    refine wq_iconst rfl rfl ?_
    refine wq_istore_n rfl (wm_zlt (by decide)) (Nat.le_of_ble_eq_true rfl) (Or.inr ⟨_, rfl, rfl⟩) (L' := [36893488147419103308, 1, u2]) rfl ?_
    exact dk_91_92T n hT (wm_zlt (by decide)) hu2 h
  · replace h := od_pos h h1
    refine wq_iload_n rfl rfl hv1 ?_
    refine wq_bipush rfl rfl ?_
    refine wq_ic_gt rfl rfl hv1 (by decide) (fun h2 => ?_) (fun h2 => ?_)
    · replace h := od_pos h h2
      refine wq_iload_n rfl rfl hv1 ?_
      refine wq_bipush rfl rfl ?_
      refine wq_ic_gt rfl rfl hv1 (by decide) (fun h3 => ?_) (fun h3 => ?_)
      · replace h := od_pos h h3
        refine wq_iload_n rfl rfl hv1 ?_
        refine wq_bipush rfl rfl ?_
        refine wq_ic_gt rfl rfl hv1 (by decide) (fun h4 => ?_) (fun h4 => ?_)
        · replace h := od_pos h h4
          refine wq_iconst rfl rfl ?_
          exact dk_91_62T hr25 hT hv1 (by decide) hu2 h
        · replace h := od_neg h (Nat.not_lt.mpr h4)
          refine wq_iconst rfl rfl ?_
          refine wq_goto rfl rfl ?_
          exact dk_91_62T hr25 hT hv1 (by decide) hu2 h
      · replace h := od_neg h (Nat.not_lt.mpr h3)
        refine wq_iconst rfl rfl ?_
        refine wq_goto rfl rfl ?_
        exact dk_91_62T hr25 hT hv1 (wm_zlt (by decide)) hu2 h
    · replace h := od_neg h (Nat.not_lt.mpr h2)
      refine wq_iconst rfl rfl ?_
      refine wq_goto rfl rfl ?_
      exact dk_91_62T hr25 hT hv1 (wm_zlt (by decide)) hu2 h
def dk_91_25 (n : Nat) : Nat → wq_F → Nat → Option (Nat × wq_F)
  | 0 => fun _ _ => none
  | g + 1 => dk_91_25b n (dk_91_25 n g)
theorem dk_91_25T {d n : Nat} : ∀ g : Nat, ∀ ⦃u2 : Nat⦄ ⦃F : wq_F⦄ (hT : xm_T F) ⦃v1 : Nat⦄ (hv1 : v1 < 4294967296) (hu2 : ev_isL u2 = false) ⦃x : Nat × wq_F⦄ (h : dk_91_25 n g F v1 = some x), wq (wq_cf (d + 2)) (ev_un al_mX1_furnish.2.2.2.2) none 25 [36893488147419103308, v1, u2] [] xm_sh F 0 0 (wkN xm_T xm_sh x)
  | 0 => by
    intro u2 F hT v1 hv1 hu2 x h
    cases h
  | g + 1 => dk_91_25bT (dk_91_25T g)
def dk_91_7b (n : Nat) (r7 : wq_F → Nat → Option (Nat × wq_F)) (F : wq_F) (v1 : Nat) : Option (Nat × wq_F) :=
  if ev_s 3 < ev_s v1 then
    dk_91_25 n n F 1
  else
    (dk_92 F).bind fun y2 =>
    od_let ((v1 + 1) % 4294967296) fun y6 =>
    r7 y2.2 y6
theorem dk_91_7bT {d n : Nat} {r7 : wq_F → Nat → Option (Nat × wq_F)} (hr7 : ∀ ⦃F : wq_F⦄ (hT : xm_T F) ⦃v1 : Nat⦄ (hv1 : v1 < 4294967296) ⦃x : Nat × wq_F⦄ (h : r7 F v1 = some x), wq (wq_cf (d + 2)) (ev_un al_mX1_furnish.2.2.2.2) none 7 [36893488147419103308, v1, 73786976294838206464] [] xm_sh F 0 0 (wkN xm_T xm_sh x)) : ∀ ⦃F : wq_F⦄ (hT : xm_T F) ⦃v1 : Nat⦄ (hv1 : v1 < 4294967296) ⦃x : Nat × wq_F⦄ (h : dk_91_7b n r7 F v1 = some x), wq (wq_cf (d + 2)) (ev_un al_mX1_furnish.2.2.2.2) none 7 [36893488147419103308, v1, 73786976294838206464] [] xm_sh F 0 0 (wkN xm_T xm_sh x) := by
  intro F hT v1 hv1 x h
  unfold dk_91_7b at h
  refine wq_iload_n rfl rfl hv1 ?_
  refine wq_iconst rfl rfl ?_
  refine wq_ic_gt rfl rfl hv1 (by decide) (fun h1 => ?_) (fun h1 => ?_)
  · replace h := od_pos h h1
    refine wq_iconst rfl rfl ?_
    refine wq_istore_n rfl (wm_zlt (by decide)) (Nat.le_of_ble_eq_true rfl) (Or.inr ⟨_, rfl, rfl⟩) (L' := [36893488147419103308, 1, 73786976294838206464]) rfl ?_
    exact dk_91_25T n hT (wm_zlt (by decide)) rfl h
  · replace h := od_neg h (Nat.not_lt.mpr h1)
    refine wq_aload_n rfl rfl rfl ?_
    obtain ⟨y2, e3, h⟩ := od_bindE h
    refine wd_virtI (q := 76) (y := y2) (as := [36893488147419103308]) rfl rfl rfl (by decide) (Nat.le_of_ble_eq_true rfl) (Nat.le_of_ble_eq_true rfl) rfl (Nat.le_of_ble_eq_true rfl) rfl (dkT_92 hT e3) (fun p4 T5 => ?_)
    refine wq_pop rfl (wq_notL p4) ?_
    obtain ⟨y6, e7, h⟩ := od_letE h
    have p8 : y6 < 4294967296 := wd_lt e7 (Nat.mod_lt _ (by decide))
    refine wq_iincZ rfl rfl hv1 (Or.inr ⟨_, rfl, rfl⟩) rfl (z := y6) e7.symm (L' := [36893488147419103308, y6, 73786976294838206464]) rfl ?_
    refine wq_goto rfl rfl ?_
    exact hr7 T5 p8 h
def dk_91_7 (n : Nat) : Nat → wq_F → Nat → Option (Nat × wq_F)
  | 0 => fun _ _ => none
  | g + 1 => dk_91_7b n (dk_91_7 n g)
theorem dk_91_7T {d n : Nat} : ∀ g : Nat, ∀ ⦃F : wq_F⦄ (hT : xm_T F) ⦃v1 : Nat⦄ (hv1 : v1 < 4294967296) ⦃x : Nat × wq_F⦄ (h : dk_91_7 n g F v1 = some x), wq (wq_cf (d + 2)) (ev_un al_mX1_furnish.2.2.2.2) none 7 [36893488147419103308, v1, 73786976294838206464] [] xm_sh F 0 0 (wkN xm_T xm_sh x)
  | 0 => by
    intro F hT v1 hv1 x h
    cases h
  | g + 1 => dk_91_7bT (dk_91_7T g)
/-- X1_furnish -/
def dk_91 (n : Nat) (F : wq_F) : Option (Nat × wq_F) :=
  od_up F 76 9 18446744073709551616 fun F1 =>
  dk_91_7 n n F1 1
theorem dkT_91 {d n : Nat} {F : wq_F} (hT : xm_T F) {x : Nat × wq_F} (h : dk_91 n F = some x) : mq (d + 2 + 1) 91 [36893488147419103308] xm_sh F (wkN xm_T xm_sh x) := by
  have e : ev_ent [36893488147419103308] = [36893488147419103308] := by
    rfl
  refine mq_of (maxL := 3) (rt := none) (code := (ev_un al_mX1_furnish.2.2.2.2)) (L := [36893488147419103308, 73786976294838206464, 73786976294838206464]) rfl (by rw [e]; exact Nat.le_of_ble_eq_true rfl) (by rw [e]; rfl) ?_
  unfold dk_91 at h
  refine wq_aload_n rfl rfl rfl ?_
  refine wq_lconst rfl ?_
  obtain ⟨F1, e2, h⟩ := od_upE h
  refine xmE_put (q := 76) rfl rfl (by decide) (by decide) rfl e2 ?_
  have T3 : xm_T F1 := wd_T e2 (hT.uf (k := 76) (f := 9) (c := 10) (v := 18446744073709551616) rfl (by decide) rfl (show ev_isL 18446744073709551616 = true from rfl))
  refine wq_iconst rfl rfl ?_
  refine wq_istore_n rfl (wm_zlt (by decide)) (Nat.le_of_ble_eq_true rfl) (Or.inr ⟨_, rfl, rfl⟩) (L' := [36893488147419103308, 1, 73786976294838206464]) rfl ?_
  exact dk_91_7T n T3 (wm_zlt (by decide)) h
