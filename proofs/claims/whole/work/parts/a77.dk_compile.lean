/-! ===== a77: the reference's compile as functions on memories (by wip/whole2/lawa77.py, dc.py): 45 X12_openFrame, 38 X12_reload, 24 X12_compile ===== -/
def dk_45_137b (n : Nat) (r137 : wq_F → Nat → Nat → Nat → Option (Nat × wq_F)) (F : wq_F) (v1 : Nat) (v3 : Nat) (v4 : Nat) : Option (Nat × wq_F) :=
  if ev_s v4 < ev_s 50 then
    od_let (((ev_oMul 50 v3) + v4) % 4294967296) fun y22 =>
    od_g (y22 < 62400) <|
    od_up F 87 y22 4294967295 fun F26 =>
    od_let ((v4 + 1) % 4294967296) fun y29 =>
    r137 F26 v1 v3 y29
  else
    od_g (v1 < 51) <|
    if ev_s 0 < ev_s (F 13 v1) then
      od_let (((ev_oMul 50 v3) + 0) % 4294967296) fun y13 =>
      if ev_s 0 < ev_s (F 0 137) then
        od_g (0 < 128) <|
        od_g (0 < 128) <|
        od_let (18446744073709551616 + F 89 0) fun y19 =>
        none
      else
        none
    else
      od_g (v1 < 51) <|
      if ev_s (F 13 v1) < ev_s (F 0 137) then
        od_g (v1 < 51) <|
        if (F 16 v1) = 0 then
          some (0, F)
        else
          od_g (F 13 v1 < 128) <|
          od_g (F 13 v1 < 128) <|
          od_let (18446744073709551616 + F 89 (F 13 v1)) fun y10 =>
          none
      else
        some (0, F)
theorem dk_45_137bT {d n : Nat} {r137 : wq_F → Nat → Nat → Nat → Option (Nat × wq_F)} (hr137 : ∀ ⦃u2 : Nat⦄ ⦃F : wq_F⦄ (hT : wm_T F) ⦃v1 : Nat⦄ (hv1 : v1 < 4294967296) ⦃v3 : Nat⦄ (hv3 : v3 < 4294967296) ⦃v4 : Nat⦄ (hv4 : v4 < 4294967296) (hu2 : ev_isL u2 = false) ⦃x : Nat × wq_F⦄ (h : r137 F v1 v3 v4 = some x), wq (wq_cf (d + 0)) (ev_un al_mX12_openFrame.2.2.2.2) none 137 [36893488147419103232, v1, u2, v3, v4] [] wm_sh F 0 0 (wkN wm_T wm_sh x)) : ∀ ⦃u2 : Nat⦄ ⦃F : wq_F⦄ (hT : wm_T F) ⦃v1 : Nat⦄ (hv1 : v1 < 4294967296) ⦃v3 : Nat⦄ (hv3 : v3 < 4294967296) ⦃v4 : Nat⦄ (hv4 : v4 < 4294967296) (hu2 : ev_isL u2 = false) ⦃x : Nat × wq_F⦄ (h : dk_45_137b n r137 F v1 v3 v4 = some x), wq (wq_cf (d + 0)) (ev_un al_mX12_openFrame.2.2.2.2) none 137 [36893488147419103232, v1, u2, v3, v4] [] wm_sh F 0 0 (wkN wm_T wm_sh x) := by
  intro u2 F hT v1 hv1 v3 hv3 v4 hv4 hu2 x h
  unfold dk_45_137b at h
  refine wq_iload rfl rfl hv4 ?_
  refine wq_bipush rfl rfl ?_
  refine wq_ic_ge rfl rfl hv4 (by decide) (fun h1 => ?_) (fun h1 => ?_)
  · replace h := od_neg h (Nat.not_lt.mpr h1)
    refine wq_iconst rfl rfl ?_
    refine wq_istore rfl (wm_zlt (by decide)) (Nat.le_of_ble_eq_true rfl) (Or.inr ⟨_, rfl, (wq_notL hv3)⟩) (L' := [36893488147419103232, v1, u2, v3, 0]) rfl ?_
    refine wq_iload rfl rfl (wm_zlt (by decide)) ?_
    refine wq_aload_n rfl rfl rfl ?_
    refine wm_getR (v := 36893488147419103245) rfl (by decide) (hT.r 27 12 rfl) ?_
    refine wq_iload_n rfl rfl hv1 ?_
    obtain ⟨g2, h⟩ := od_gE h
    refine wq_iaload (q := 13) (n := 51) rfl rfl (by decide) g2 (by decide) ?_
    refine wq_ic_ge rfl rfl (wm_zlt (by decide)) (hT.ai (k := 13) rfl g2) (fun h3 => ?_) (fun h3 => ?_)
    · replace h := od_neg h (Nat.not_lt.mpr h3)
      refine wq_aload_n rfl rfl rfl ?_
      refine wm_getR (v := 36893488147419103245) rfl (by decide) (hT.r 27 12 rfl) ?_
      refine wq_iload_n rfl rfl hv1 ?_
      obtain ⟨g4, h⟩ := od_gE h
      refine wq_iaload (q := 13) (n := 51) rfl rfl (by decide) g4 (by decide) ?_
      refine wq_istore rfl (hT.ai (k := 13) rfl g4) (Nat.le_of_ble_eq_true rfl) (Or.inr ⟨_, rfl, (wq_notL hv3)⟩) (L' := [36893488147419103232, v1, u2, v3, F 13 v1]) rfl ?_
      refine wq_iload rfl rfl (hT.ai (k := 13) rfl g4) ?_
      refine wq_aload_n rfl rfl rfl ?_
      refine wm_getI rfl (by decide) ?_
      refine wq_ic_ge rfl rfl (hT.ai (k := 13) rfl g4) (hT.i 137 rfl) (fun h5 => ?_) (fun h5 => ?_)
      · replace h := od_neg h (Nat.not_lt.mpr h5)
        exact wq_ret rfl (wkON h hT)
      · replace h := od_pos h h5
        refine wq_aload_n rfl rfl rfl ?_
        refine wm_getR (v := 36893488147419103248) rfl (by decide) (hT.r 30 15 rfl) ?_
        refine wq_iload_n rfl rfl hv1 ?_
        obtain ⟨g6, h⟩ := od_gE h
        refine wq_zaload (q := 16) (n := 51) rfl rfl (by decide) g6 (by decide) ?_
        refine wq_if_eq rfl rfl (wm_zlt (hT.az (k := 16) rfl g6)) (fun h7 => ?_) (fun h7 => ?_)
        · replace h := od_pos h h7
          exact wq_ret rfl (wkON h hT)
        · replace h := od_neg h h7
          refine wq_aload_n rfl rfl rfl ?_
          refine wq_aload_n rfl rfl rfl ?_
          refine wm_getR (v := 36893488147419103320) rfl (by decide) (hT.r 135 87 rfl) ?_
          refine wq_iload rfl rfl (hT.ai (k := 13) rfl g4) ?_
          obtain ⟨g8, h⟩ := od_gE h
          refine wq_iaload (q := 88) (n := 128) rfl rfl (by decide) g8 (by decide) ?_
          refine wq_aload_n rfl rfl rfl ?_
          refine wm_getR (v := 36893488147419103321) rfl (by decide) (hT.r 136 88 rfl) ?_
          refine wq_iload rfl rfl (hT.ai (k := 13) rfl g4) ?_
          obtain ⟨g9, h⟩ := od_gE h
          refine wq_laload (q := 89) (n := 128) rfl rfl (by decide) g9 (by decide) ?_
          obtain ⟨y10, e11, h⟩ := od_letE h
          refine wq_top e11.symm ?_
          have p12 : ev_isL y10 = true := wd_ge e11 (wm_al_L (hT.al (k := 89) rfl g9))
          exact nomatch h
    · replace h := od_pos h h3
      refine wq_aload_n rfl rfl rfl ?_
      refine wm_getR (v := 36893488147419103319) rfl (by decide) (hT.r 128 86 rfl) ?_
      refine wq_bipush rfl rfl ?_
      refine wq_iload_n rfl rfl hv3 ?_
      refine wq_imul rfl (by decide) hv3 ?_
      refine wq_iload rfl rfl (wm_zlt (by decide)) ?_
      refine wq_iaddZ rfl (Nat.mod_lt _ (by decide)) (wm_zlt (by decide)) (z := ((ev_oMul 50 v3) + 0) % 4294967296) rfl ?_
      obtain ⟨y13, e14, h⟩ := od_letE h
      refine wq_top e14.symm ?_
      have p15 : y13 < 4294967296 := wd_lt e14 (Nat.mod_lt _ (by decide))
      refine wq_iload rfl rfl (wm_zlt (by decide)) ?_
      refine wq_aload_n rfl rfl rfl ?_
      refine wm_getI rfl (by decide) ?_
      refine wq_ic_ge rfl rfl (wm_zlt (by decide)) (hT.i 137 rfl) (fun h16 => ?_) (fun h16 => ?_)
      · replace h := od_neg h (Nat.not_lt.mpr h16)
        refine wq_aload_n rfl rfl rfl ?_
        refine wq_iconst rfl rfl ?_
        refine wq_lconst rfl ?_
        exact nomatch h
      · replace h := od_pos h h16
        refine wq_aload_n rfl rfl rfl ?_
        refine wq_aload_n rfl rfl rfl ?_
        refine wm_getR (v := 36893488147419103320) rfl (by decide) (hT.r 135 87 rfl) ?_
        refine wq_iload rfl rfl (wm_zlt (by decide)) ?_
        obtain ⟨g17, h⟩ := od_gE h
        refine wq_iaload (q := 88) (n := 128) rfl rfl (by decide) g17 (by decide) ?_
        refine wq_aload_n rfl rfl rfl ?_
        refine wm_getR (v := 36893488147419103321) rfl (by decide) (hT.r 136 88 rfl) ?_
        refine wq_iload rfl rfl (wm_zlt (by decide)) ?_
        obtain ⟨g18, h⟩ := od_gE h
        refine wq_laload (q := 89) (n := 128) rfl rfl (by decide) g18 (by decide) ?_
        obtain ⟨y19, e20, h⟩ := od_letE h
        refine wq_top e20.symm ?_
        have p21 : ev_isL y19 = true := wd_ge e20 (wm_al_L (hT.al (k := 89) rfl g18))
        exact nomatch h
  · replace h := od_pos h h1
    refine wq_aload_n rfl rfl rfl ?_
    refine wm_getR (v := 36893488147419103319) rfl (by decide) (hT.r 128 86 rfl) ?_
    refine wq_bipush rfl rfl ?_
    refine wq_iload_n rfl rfl hv3 ?_
    refine wq_imul rfl (by decide) hv3 ?_
    refine wq_iload rfl rfl hv4 ?_
    refine wq_iaddZ rfl (Nat.mod_lt _ (by decide)) hv4 (z := ((ev_oMul 50 v3) + v4) % 4294967296) rfl ?_
    obtain ⟨y22, e23, h⟩ := od_letE h
    refine wq_top e23.symm ?_
    have p24 : y22 < 4294967296 := wd_lt e23 (Nat.mod_lt _ (by decide))
    refine wq_iconst rfl rfl ?_
    obtain ⟨g25, h⟩ := od_gE h
    obtain ⟨F26, e27, h⟩ := od_upE h
    refine wd_iastore (q := 87) (n := 62400) rfl rfl (by decide) g25 (by decide) (by decide) e27 ?_
    have T28 : wm_T F26 := wd_T e27 (hT.ua (k := 87) (kd := 1000) (n := 62400) (i := y22) (v := 4294967295) rfl (by decide) g25 (show 4294967295 < 4294967296 from (by decide)))
    obtain ⟨y29, e30, h⟩ := od_letE h
    have p31 : y29 < 4294967296 := wd_lt e30 (Nat.mod_lt _ (by decide))
    refine wq_iincZ rfl rfl hv4 (Or.inr ⟨_, rfl, (wq_notL hv3)⟩) rfl (z := y29) e30.symm (L' := [36893488147419103232, v1, u2, v3, y29]) rfl ?_
    refine wq_goto rfl rfl ?_
    exact hr137 T28 hv1 hv3 p31 hu2 h
def dk_45_137 (n : Nat) : Nat → wq_F → Nat → Nat → Nat → Option (Nat × wq_F)
  | 0 => fun _ _ _ _ => none
  | g + 1 => dk_45_137b n (dk_45_137 n g)
theorem dk_45_137T {d n : Nat} : ∀ g : Nat, ∀ ⦃u2 : Nat⦄ ⦃F : wq_F⦄ (hT : wm_T F) ⦃v1 : Nat⦄ (hv1 : v1 < 4294967296) ⦃v3 : Nat⦄ (hv3 : v3 < 4294967296) ⦃v4 : Nat⦄ (hv4 : v4 < 4294967296) (hu2 : ev_isL u2 = false) ⦃x : Nat × wq_F⦄ (h : dk_45_137 n g F v1 v3 v4 = some x), wq (wq_cf (d + 0)) (ev_un al_mX12_openFrame.2.2.2.2) none 137 [36893488147419103232, v1, u2, v3, v4] [] wm_sh F 0 0 (wkN wm_T wm_sh x)
  | 0 => by
    intro u2 F hT v1 hv1 v3 hv3 v4 hv4 hu2 x h
    cases h
  | g + 1 => dk_45_137bT (dk_45_137T g)
/-- X12_openFrame -/
def dk_45 (n : Nat) (F : wq_F) (a0 : Nat) (a1 : Nat) : Option (Nat × wq_F) :=
  od_g (F 0 111 < 26) <|
  od_let (((ev_oMul 48 (F 0 111)) + (F 62 (F 0 111))) % 4294967296) fun y2 =>
  od_g (F 0 111 < 26) <|
  od_let (((F 62 (F 0 111)) + 1) % 4294967296) fun y6 =>
  od_g (F 0 111 < 26) <|
  od_up F 62 (F 0 111) y6 fun F10 =>
  od_g (F10 0 111 < 26) <|
  od_let (((F10 65 (F10 0 111)) + 1) % 4294967296) fun y14 =>
  od_g (F10 0 111 < 26) <|
  od_up F10 65 (F10 0 111) y14 fun F18 =>
  od_g (y2 < 1248) <|
  od_up F18 74 y2 0 fun F22 =>
  od_g (y2 < 1248) <|
  od_up F22 75 y2 a0 fun F26 =>
  od_g (y2 < 1248) <|
  od_up F26 76 y2 a1 fun F30 =>
  od_g (a0 < 51) <|
  od_g (y2 < 1248) <|
  od_up F30 77 y2 (F30 12 a0) fun F35 =>
  od_g (y2 < 1248) <|
  od_up F35 78 y2 (F35 0 130) fun F39 =>
  od_g (y2 < 1248) <|
  od_up F39 79 y2 (F39 0 131) fun F43 =>
  od_g (F43 0 111 < 26) <|
  od_g (y2 < 1248) <|
  od_up F43 80 y2 (F43 63 (F43 0 111)) fun F48 =>
  od_g (F48 0 111 < 26) <|
  od_g (y2 < 1248) <|
  od_up F48 81 y2 (F48 64 (F48 0 111)) fun F53 =>
  od_g (y2 < 1248) <|
  od_up F53 82 y2 0 fun F57 =>
  dk_45_137 n n F57 a0 y2 0
theorem dkT_45 {d n : Nat} {F : wq_F} (hT : wm_T F) {a0 : Nat} (ha0 : a0 < 4294967296) {a1 : Nat} (ha1 : a1 < 4294967296) {x : Nat × wq_F} (h : dk_45 n F a0 a1 = some x) : mq (d + 0 + 1) 45 [36893488147419103232, a0, a1] wm_sh F (wkN wm_T wm_sh x) := by
  have e : ev_ent [36893488147419103232, a0, a1] = [36893488147419103232, a0, a1] := by
    show 36893488147419103232 :: ev_ent [a0, a1] = _
    rw [wm_entI ha0, wm_entI ha1]
    rfl
  refine mq_of (maxL := 5) (rt := none) (code := (ev_un al_mX12_openFrame.2.2.2.2)) (L := [36893488147419103232, a0, a1, 73786976294838206464, 73786976294838206464]) rfl (by rw [e]; exact Nat.le_of_ble_eq_true rfl) (by rw [e]; rfl) ?_
  unfold dk_45 at h
  refine wq_bipush rfl rfl ?_
  refine wq_aload_n rfl rfl rfl ?_
  refine wm_getI rfl (by decide) ?_
  refine wq_imul rfl (by decide) (hT.i 111 rfl) ?_
  refine wq_aload_n rfl rfl rfl ?_
  refine wm_getR (v := 36893488147419103294) rfl (by decide) (hT.r 101 61 rfl) ?_
  refine wq_aload_n rfl rfl rfl ?_
  refine wm_getI rfl (by decide) ?_
  obtain ⟨g1, h⟩ := od_gE h
  refine wq_iaload (q := 62) (n := 26) rfl rfl (by decide) g1 (by decide) ?_
  refine wq_iaddZ rfl (Nat.mod_lt _ (by decide)) (hT.ai (k := 62) rfl g1) (z := ((ev_oMul 48 (F 0 111)) + (F 62 (F 0 111))) % 4294967296) rfl ?_
  obtain ⟨y2, e3, h⟩ := od_letE h
  refine wq_top e3.symm ?_
  have p4 : y2 < 4294967296 := wd_lt e3 (Nat.mod_lt _ (by decide))
  refine wq_istore_n rfl p4 (Nat.le_of_ble_eq_true rfl) (Or.inr ⟨_, rfl, (wq_notL ha1)⟩) (L' := [36893488147419103232, a0, a1, y2, 73786976294838206464]) rfl ?_
  refine wq_aload_n rfl rfl rfl ?_
  refine wm_getR (v := 36893488147419103294) rfl (by decide) (hT.r 101 61 rfl) ?_
  refine wq_aload_n rfl rfl rfl ?_
  refine wm_getI rfl (by decide) ?_
  refine wq_dup2 rfl (wq_notL (hT.i 111 rfl)) rfl ?_
  obtain ⟨g5, h⟩ := od_gE h
  refine wq_iaload (q := 62) (n := 26) rfl rfl (by decide) g5 (by decide) ?_
  refine wq_iconst rfl rfl ?_
  refine wq_iaddZ rfl (hT.ai (k := 62) rfl g5) (wm_zlt (by decide)) (z := ((F 62 (F 0 111)) + 1) % 4294967296) rfl ?_
  obtain ⟨y6, e7, h⟩ := od_letE h
  refine wq_top e7.symm ?_
  have p8 : y6 < 4294967296 := wd_lt e7 (Nat.mod_lt _ (by decide))
  obtain ⟨g9, h⟩ := od_gE h
  obtain ⟨F10, e11, h⟩ := od_upE h
  refine wd_iastore (q := 62) (n := 26) rfl rfl (by decide) g9 (by decide) p8 e11 ?_
  have T12 : wm_T F10 := wd_T e11 (hT.ua (k := 62) (kd := 1000) (n := 26) (i := F 0 111) (v := y6) rfl (by decide) g9 (show y6 < 4294967296 from p8))
  refine wq_aload_n rfl rfl rfl ?_
  refine wm_getR (v := 36893488147419103297) rfl (by decide) (T12.r 104 64 rfl) ?_
  refine wq_aload_n rfl rfl rfl ?_
  refine wm_getI rfl (by decide) ?_
  refine wq_dup2 rfl (wq_notL (T12.i 111 rfl)) rfl ?_
  obtain ⟨g13, h⟩ := od_gE h
  refine wq_iaload (q := 65) (n := 26) rfl rfl (by decide) g13 (by decide) ?_
  refine wq_iconst rfl rfl ?_
  refine wq_iaddZ rfl (T12.ai (k := 65) rfl g13) (wm_zlt (by decide)) (z := ((F10 65 (F10 0 111)) + 1) % 4294967296) rfl ?_
  obtain ⟨y14, e15, h⟩ := od_letE h
  refine wq_top e15.symm ?_
  have p16 : y14 < 4294967296 := wd_lt e15 (Nat.mod_lt _ (by decide))
  obtain ⟨g17, h⟩ := od_gE h
  obtain ⟨F18, e19, h⟩ := od_upE h
  refine wd_iastore (q := 65) (n := 26) rfl rfl (by decide) g17 (by decide) p16 e19 ?_
  have T20 : wm_T F18 := wd_T e19 (T12.ua (k := 65) (kd := 1000) (n := 26) (i := F10 0 111) (v := y14) rfl (by decide) g17 (show y14 < 4294967296 from p16))
  refine wq_aload_n rfl rfl rfl ?_
  refine wm_getR (v := 36893488147419103306) rfl (by decide) (T20.r 115 73 rfl) ?_
  refine wq_iload_n rfl rfl p4 ?_
  refine wq_iconst rfl rfl ?_
  obtain ⟨g21, h⟩ := od_gE h
  obtain ⟨F22, e23, h⟩ := od_upE h
  refine wd_iastore (q := 74) (n := 1248) rfl rfl (by decide) g21 (by decide) (wm_zlt (by decide)) e23 ?_
  have T24 : wm_T F22 := wd_T e23 (T20.ua (k := 74) (kd := 1000) (n := 1248) (i := y2) (v := 0) rfl (by decide) g21 (show 0 < 4294967296 from (wm_zlt (by decide))))
  refine wq_aload_n rfl rfl rfl ?_
  refine wm_getR (v := 36893488147419103307) rfl (by decide) (T24.r 116 74 rfl) ?_
  refine wq_iload_n rfl rfl p4 ?_
  refine wq_iload_n rfl rfl ha0 ?_
  obtain ⟨g25, h⟩ := od_gE h
  obtain ⟨F26, e27, h⟩ := od_upE h
  refine wd_iastore (q := 75) (n := 1248) rfl rfl (by decide) g25 (by decide) ha0 e27 ?_
  have T28 : wm_T F26 := wd_T e27 (T24.ua (k := 75) (kd := 1000) (n := 1248) (i := y2) (v := a0) rfl (by decide) g25 (show a0 < 4294967296 from ha0))
  refine wq_aload_n rfl rfl rfl ?_
  refine wm_getR (v := 36893488147419103308) rfl (by decide) (T28.r 117 75 rfl) ?_
  refine wq_iload_n rfl rfl p4 ?_
  refine wq_iload_n rfl rfl ha1 ?_
  obtain ⟨g29, h⟩ := od_gE h
  obtain ⟨F30, e31, h⟩ := od_upE h
  refine wd_iastore (q := 76) (n := 1248) rfl rfl (by decide) g29 (by decide) ha1 e31 ?_
  have T32 : wm_T F30 := wd_T e31 (T28.ua (k := 76) (kd := 1000) (n := 1248) (i := y2) (v := a1) rfl (by decide) g29 (show a1 < 4294967296 from ha1))
  refine wq_aload_n rfl rfl rfl ?_
  refine wm_getR (v := 36893488147419103309) rfl (by decide) (T32.r 118 76 rfl) ?_
  refine wq_iload_n rfl rfl p4 ?_
  refine wq_aload_n rfl rfl rfl ?_
  refine wm_getR (v := 36893488147419103244) rfl (by decide) (T32.r 26 11 rfl) ?_
  refine wq_iload_n rfl rfl ha0 ?_
  obtain ⟨g33, h⟩ := od_gE h
  refine wq_iaload (q := 12) (n := 51) rfl rfl (by decide) g33 (by decide) ?_
  obtain ⟨g34, h⟩ := od_gE h
  obtain ⟨F35, e36, h⟩ := od_upE h
  refine wd_iastore (q := 77) (n := 1248) rfl rfl (by decide) g34 (by decide) (T32.ai (k := 12) rfl g33) e36 ?_
  have T37 : wm_T F35 := wd_T e36 (T32.ua (k := 77) (kd := 1000) (n := 1248) (i := y2) (v := F30 12 a0) rfl (by decide) g34 (show F30 12 a0 < 4294967296 from (T32.ai (k := 12) rfl g33)))
  refine wq_aload_n rfl rfl rfl ?_
  refine wm_getR (v := 36893488147419103310) rfl (by decide) (T37.r 119 77 rfl) ?_
  refine wq_iload_n rfl rfl p4 ?_
  refine wq_aload_n rfl rfl rfl ?_
  refine wm_getI rfl (by decide) ?_
  obtain ⟨g38, h⟩ := od_gE h
  obtain ⟨F39, e40, h⟩ := od_upE h
  refine wd_iastore (q := 78) (n := 1248) rfl rfl (by decide) g38 (by decide) (T37.i 130 rfl) e40 ?_
  have T41 : wm_T F39 := wd_T e40 (T37.ua (k := 78) (kd := 1000) (n := 1248) (i := y2) (v := F35 0 130) rfl (by decide) g38 (show F35 0 130 < 4294967296 from (T37.i 130 rfl)))
  refine wq_aload_n rfl rfl rfl ?_
  refine wm_getR (v := 36893488147419103311) rfl (by decide) (T41.r 120 78 rfl) ?_
  refine wq_iload_n rfl rfl p4 ?_
  refine wq_aload_n rfl rfl rfl ?_
  refine wm_getI rfl (by decide) ?_
  obtain ⟨g42, h⟩ := od_gE h
  obtain ⟨F43, e44, h⟩ := od_upE h
  refine wd_iastore (q := 79) (n := 1248) rfl rfl (by decide) g42 (by decide) (T41.i 131 rfl) e44 ?_
  have T45 : wm_T F43 := wd_T e44 (T41.ua (k := 79) (kd := 1000) (n := 1248) (i := y2) (v := F39 0 131) rfl (by decide) g42 (show F39 0 131 < 4294967296 from (T41.i 131 rfl)))
  refine wq_aload_n rfl rfl rfl ?_
  refine wm_getR (v := 36893488147419103312) rfl (by decide) (T45.r 121 79 rfl) ?_
  refine wq_iload_n rfl rfl p4 ?_
  refine wq_aload_n rfl rfl rfl ?_
  refine wm_getR (v := 36893488147419103295) rfl (by decide) (T45.r 102 62 rfl) ?_
  refine wq_aload_n rfl rfl rfl ?_
  refine wm_getI rfl (by decide) ?_
  obtain ⟨g46, h⟩ := od_gE h
  refine wq_iaload (q := 63) (n := 26) rfl rfl (by decide) g46 (by decide) ?_
  obtain ⟨g47, h⟩ := od_gE h
  obtain ⟨F48, e49, h⟩ := od_upE h
  refine wd_iastore (q := 80) (n := 1248) rfl rfl (by decide) g47 (by decide) (T45.ai (k := 63) rfl g46) e49 ?_
  have T50 : wm_T F48 := wd_T e49 (T45.ua (k := 80) (kd := 1000) (n := 1248) (i := y2) (v := F43 63 (F43 0 111)) rfl (by decide) g47 (show F43 63 (F43 0 111) < 4294967296 from (T45.ai (k := 63) rfl g46)))
  refine wq_aload_n rfl rfl rfl ?_
  refine wm_getR (v := 36893488147419103313) rfl (by decide) (T50.r 122 80 rfl) ?_
  refine wq_iload_n rfl rfl p4 ?_
  refine wq_aload_n rfl rfl rfl ?_
  refine wm_getR (v := 36893488147419103296) rfl (by decide) (T50.r 103 63 rfl) ?_
  refine wq_aload_n rfl rfl rfl ?_
  refine wm_getI rfl (by decide) ?_
  obtain ⟨g51, h⟩ := od_gE h
  refine wq_iaload (q := 64) (n := 26) rfl rfl (by decide) g51 (by decide) ?_
  obtain ⟨g52, h⟩ := od_gE h
  obtain ⟨F53, e54, h⟩ := od_upE h
  refine wd_iastore (q := 81) (n := 1248) rfl rfl (by decide) g52 (by decide) (T50.ai (k := 64) rfl g51) e54 ?_
  have T55 : wm_T F53 := wd_T e54 (T50.ua (k := 81) (kd := 1000) (n := 1248) (i := y2) (v := F48 64 (F48 0 111)) rfl (by decide) g52 (show F48 64 (F48 0 111) < 4294967296 from (T50.ai (k := 64) rfl g51)))
  refine wq_aload_n rfl rfl rfl ?_
  refine wm_getR (v := 36893488147419103314) rfl (by decide) (T55.r 123 81 rfl) ?_
  refine wq_iload_n rfl rfl p4 ?_
  refine wq_iconst rfl rfl ?_
  obtain ⟨g56, h⟩ := od_gE h
  obtain ⟨F57, e58, h⟩ := od_upE h
  refine wd_iastore (q := 82) (n := 1248) rfl rfl (by decide) g56 (by decide) (wm_zlt (by decide)) e58 ?_
  have T59 : wm_T F57 := wd_T e58 (T55.ua (k := 82) (kd := 1000) (n := 1248) (i := y2) (v := 0) rfl (by decide) g56 (show 0 < 4294967296 from (wm_zlt (by decide))))
  refine wq_iconst rfl rfl ?_
  refine wq_istore rfl (wm_zlt (by decide)) (Nat.le_of_ble_eq_true rfl) (Or.inr ⟨_, rfl, (wq_notL p4)⟩) (L' := [36893488147419103232, a0, a1, y2, 0]) rfl ?_
  exact dk_45_137T n T59 ha0 p4 (wm_zlt (by decide)) (wq_notL ha1) h
def dk_38_158b (n : Nat) (r158 : wq_F → Nat → Option (Nat × wq_F)) (F : wq_F) (v1 : Nat) : Option (Nat × wq_F) :=
  if ev_s v1 < ev_s 31 then
    if v1 = 26 then
      (dk_39 n F 3 29 7 (ev_oI2l v1)).bind fun y62 =>
      od_let ((v1 + 1) % 4294967296) fun y66 =>
      r158 y62.2 y66
    else
      if v1 = 30 then
        (dk_39 n F 3 31 7 (ev_oI2l v1)).bind fun y55 =>
        od_let ((v1 + 1) % 4294967296) fun y59 =>
        r158 y55.2 y59
      else
        od_let ((((66 + v1) % 4294967296) + (4294967296 - 27)) % 4294967296) fun y45 =>
        (dk_39 n F 3 y45 7 (ev_oI2l v1)).bind fun y48 =>
        od_let ((v1 + 1) % 4294967296) fun y52 =>
        r158 y48.2 y52
  else
    od_up F 0 111 0 fun F2 =>
    od_g (0 < 26) <|
    od_up F2 58 0 2 fun F6 =>
    od_g (0 < 26) <|
    od_up F6 59 0 0 fun F10 =>
    od_g (0 < 26) <|
    od_up F10 62 0 0 fun F14 =>
    od_g (0 < 26) <|
    od_up F14 63 0 0 fun F18 =>
    od_g (0 < 26) <|
    od_up F18 64 0 0 fun F22 =>
    od_g (0 < 26) <|
    od_up F22 65 0 0 fun F26 =>
    od_up F26 0 137 0 fun F29 =>
    (dk_44 F29 0 4294967295 0).bind fun y32 =>
    (dk_45 n y32.2 0 0).bind fun y36 =>
    od_up y36.2 0 129 0 fun F40 =>
    some (0, F40)
theorem dk_38_158bT {d n : Nat} {r158 : wq_F → Nat → Option (Nat × wq_F)} (hr158 : ∀ ⦃u2 : Nat⦄ ⦃F : wq_F⦄ (hT : wm_T F) ⦃v1 : Nat⦄ (hv1 : v1 < 4294967296) (hu2 : ev_isL u2 = false) ⦃x : Nat × wq_F⦄ (h : r158 F v1 = some x), wq (wq_cf (d + 4)) (ev_un al_mX12_reload.2.2.2.2) none 158 [36893488147419103232, v1, u2] [] wm_sh F 0 0 (wkN wm_T wm_sh x)) : ∀ ⦃u2 : Nat⦄ ⦃F : wq_F⦄ (hT : wm_T F) ⦃v1 : Nat⦄ (hv1 : v1 < 4294967296) (hu2 : ev_isL u2 = false) ⦃x : Nat × wq_F⦄ (h : dk_38_158b n r158 F v1 = some x), wq (wq_cf (d + 4)) (ev_un al_mX12_reload.2.2.2.2) none 158 [36893488147419103232, v1, u2] [] wm_sh F 0 0 (wkN wm_T wm_sh x) := by
  intro u2 F hT v1 hv1 hu2 x h
  unfold dk_38_158b at h
  refine wq_iload_n rfl rfl hv1 ?_
  refine wq_bipush rfl rfl ?_
  refine wq_ic_ge rfl rfl hv1 (by decide) (fun h1 => ?_) (fun h1 => ?_)
  · replace h := od_neg h (Nat.not_lt.mpr h1)
    refine wq_aload_n rfl rfl rfl ?_
    refine wq_iconst rfl rfl ?_
    obtain ⟨F2, e3, h⟩ := od_upE h
    refine wmE_put rfl (by decide) (wq_I (wm_zlt (by decide))) e3 ?_
    have T4 : wm_T F2 := wd_T e3 (hT.uf (f := 111) (c := 0) (v := 0) rfl (show 0 < 4294967296 from (wm_zlt (by decide))))
    refine wq_aload_n rfl rfl rfl ?_
    refine wm_getR (v := 36893488147419103290) rfl (by decide) (T4.r 97 57 rfl) ?_
    refine wq_iconst rfl rfl ?_
    refine wq_iconst rfl rfl ?_
    obtain ⟨g5, h⟩ := od_gE h
    obtain ⟨F6, e7, h⟩ := od_upE h
    refine wd_iastore (q := 58) (n := 26) rfl rfl (by decide) g5 (by decide) (by decide) e7 ?_
    have T8 : wm_T F6 := wd_T e7 (T4.ua (k := 58) (kd := 1000) (n := 26) (i := 0) (v := 2) rfl (by decide) g5 (show 2 < 4294967296 from (by decide)))
    refine wq_aload_n rfl rfl rfl ?_
    refine wm_getR (v := 36893488147419103291) rfl (by decide) (T8.r 98 58 rfl) ?_
    refine wq_iconst rfl rfl ?_
    refine wq_iconst rfl rfl ?_
    obtain ⟨g9, h⟩ := od_gE h
    obtain ⟨F10, e11, h⟩ := od_upE h
    refine wd_iastore (q := 59) (n := 26) rfl rfl (by decide) g9 (by decide) (wm_zlt (by decide)) e11 ?_
    have T12 : wm_T F10 := wd_T e11 (T8.ua (k := 59) (kd := 1000) (n := 26) (i := 0) (v := 0) rfl (by decide) g9 (show 0 < 4294967296 from (wm_zlt (by decide))))
    refine wq_aload_n rfl rfl rfl ?_
    refine wm_getR (v := 36893488147419103294) rfl (by decide) (T12.r 101 61 rfl) ?_
    refine wq_iconst rfl rfl ?_
    refine wq_iconst rfl rfl ?_
    obtain ⟨g13, h⟩ := od_gE h
    obtain ⟨F14, e15, h⟩ := od_upE h
    refine wd_iastore (q := 62) (n := 26) rfl rfl (by decide) g13 (by decide) (wm_zlt (by decide)) e15 ?_
    have T16 : wm_T F14 := wd_T e15 (T12.ua (k := 62) (kd := 1000) (n := 26) (i := 0) (v := 0) rfl (by decide) g13 (show 0 < 4294967296 from (wm_zlt (by decide))))
    refine wq_aload_n rfl rfl rfl ?_
    refine wm_getR (v := 36893488147419103295) rfl (by decide) (T16.r 102 62 rfl) ?_
    refine wq_iconst rfl rfl ?_
    refine wq_iconst rfl rfl ?_
    obtain ⟨g17, h⟩ := od_gE h
    obtain ⟨F18, e19, h⟩ := od_upE h
    refine wd_iastore (q := 63) (n := 26) rfl rfl (by decide) g17 (by decide) (wm_zlt (by decide)) e19 ?_
    have T20 : wm_T F18 := wd_T e19 (T16.ua (k := 63) (kd := 1000) (n := 26) (i := 0) (v := 0) rfl (by decide) g17 (show 0 < 4294967296 from (wm_zlt (by decide))))
    refine wq_aload_n rfl rfl rfl ?_
    refine wm_getR (v := 36893488147419103296) rfl (by decide) (T20.r 103 63 rfl) ?_
    refine wq_iconst rfl rfl ?_
    refine wq_iconst rfl rfl ?_
    obtain ⟨g21, h⟩ := od_gE h
    obtain ⟨F22, e23, h⟩ := od_upE h
    refine wd_iastore (q := 64) (n := 26) rfl rfl (by decide) g21 (by decide) (wm_zlt (by decide)) e23 ?_
    have T24 : wm_T F22 := wd_T e23 (T20.ua (k := 64) (kd := 1000) (n := 26) (i := 0) (v := 0) rfl (by decide) g21 (show 0 < 4294967296 from (wm_zlt (by decide))))
    refine wq_aload_n rfl rfl rfl ?_
    refine wm_getR (v := 36893488147419103297) rfl (by decide) (T24.r 104 64 rfl) ?_
    refine wq_iconst rfl rfl ?_
    refine wq_iconst rfl rfl ?_
    obtain ⟨g25, h⟩ := od_gE h
    obtain ⟨F26, e27, h⟩ := od_upE h
    refine wd_iastore (q := 65) (n := 26) rfl rfl (by decide) g25 (by decide) (wm_zlt (by decide)) e27 ?_
    have T28 : wm_T F26 := wd_T e27 (T24.ua (k := 65) (kd := 1000) (n := 26) (i := 0) (v := 0) rfl (by decide) g25 (show 0 < 4294967296 from (wm_zlt (by decide))))
    refine wq_aload_n rfl rfl rfl ?_
    refine wq_iconst rfl rfl ?_
    obtain ⟨F29, e30, h⟩ := od_upE h
    refine wmE_put rfl (by decide) (wq_I (wm_zlt (by decide))) e30 ?_
    have T31 : wm_T F29 := wd_T e30 (T28.uf (f := 137) (c := 0) (v := 0) rfl (show 0 < 4294967296 from (wm_zlt (by decide))))
    refine wq_aload_n rfl rfl rfl ?_
    refine wq_iconst rfl rfl ?_
    refine wq_iconst rfl rfl ?_
    refine wq_iconst rfl rfl ?_
    obtain ⟨y32, e33, h⟩ := od_bindE h
    refine wd_virtN (q := 0) (y := y32) (as := [36893488147419103232, 0, 4294967295, 0]) rfl rfl rfl (by decide) (Nat.le_of_ble_eq_true rfl) (Nat.le_of_ble_eq_true rfl) rfl (Nat.le_of_ble_eq_true rfl) rfl (dkT_44 T31 (wm_zlt (by decide)) (by decide) (wm_zlt (by decide)) e33) (fun T35 => ?_)
    refine wq_aload_n rfl rfl rfl ?_
    refine wq_iconst rfl rfl ?_
    refine wq_iconst rfl rfl ?_
    obtain ⟨y36, e37, h⟩ := od_bindE h
    refine wd_virtN (q := 0) (y := y36) (as := [36893488147419103232, 0, 0]) rfl rfl rfl (by decide) (Nat.le_of_ble_eq_true rfl) (Nat.le_of_ble_eq_true rfl) rfl (Nat.le_of_ble_eq_true rfl) rfl (dkT_45 T35 (wm_zlt (by decide)) (wm_zlt (by decide)) e37) (fun T39 => ?_)
    refine wq_aload_n rfl rfl rfl ?_
    refine wq_iconst rfl rfl ?_
    obtain ⟨F40, e41, h⟩ := od_upE h
    refine wmE_put rfl (by decide) (wq_I (wm_zlt (by decide))) e41 ?_
    have T42 : wm_T F40 := wd_T e41 (T39.uf (f := 129) (c := 0) (v := 0) rfl (show 0 < 4294967296 from (wm_zlt (by decide))))
    exact wq_ret rfl (wkON h T42)
  · replace h := od_pos h h1
    refine wq_aload_n rfl rfl rfl ?_
    refine wq_iconst rfl rfl ?_
    refine wq_iload_n rfl rfl hv1 ?_
    refine wq_bipush rfl rfl ?_
    refine wq_ic_ne rfl rfl hv1 (by decide) (fun h43 => ?_) (fun h43 => ?_)
    · replace h := od_neg h h43
      refine wq_iload_n rfl rfl hv1 ?_
      refine wq_bipush rfl rfl ?_
      refine wq_ic_ne rfl rfl hv1 (by decide) (fun h44 => ?_) (fun h44 => ?_)
      · replace h := od_neg h h44
        refine wq_bipush rfl rfl ?_
        refine wq_iload_n rfl rfl hv1 ?_
        refine wq_iaddZ rfl (by decide) hv1 (z := (66 + v1) % 4294967296) rfl ?_
        refine wq_bipush rfl rfl ?_
        refine wq_isubZ rfl (Nat.mod_lt _ (by decide)) (by decide) (z := (((66 + v1) % 4294967296) + (4294967296 - 27)) % 4294967296) rfl ?_
        obtain ⟨y45, e46, h⟩ := od_letE h
        refine wq_top e46.symm ?_
        have p47 : y45 < 4294967296 := wd_lt e46 (Nat.mod_lt _ (by decide))
        refine wq_bipush rfl rfl ?_
        refine wq_iload_n rfl rfl hv1 ?_
        refine wq_i2l rfl hv1 ?_
        obtain ⟨y48, e49, h⟩ := od_bindE h
        refine wd_virtN (q := 0) (y := y48) (as := [36893488147419103232, 3, y45, 7, ev_oI2l v1]) rfl rfl rfl (by decide) (Nat.le_of_ble_eq_true rfl) (Nat.le_of_ble_eq_true rfl) rfl (Nat.le_of_ble_eq_true rfl) rfl (dkT_39 hT (by decide) p47 (by decide) (wq_i2l_L hv1) e49) (fun T51 => ?_)
        obtain ⟨y52, e53, h⟩ := od_letE h
        have p54 : y52 < 4294967296 := wd_lt e53 (Nat.mod_lt _ (by decide))
        refine wq_iincZ rfl rfl hv1 (Or.inr ⟨_, rfl, rfl⟩) rfl (z := y52) e53.symm (L' := [36893488147419103232, y52, u2]) rfl ?_
        refine wq_goto rfl rfl ?_
        exact hr158 T51 p54 hu2 h
      · replace h := od_pos h h44
        refine wq_bipush rfl rfl ?_
        refine wq_goto rfl rfl ?_
        refine wq_bipush rfl rfl ?_
        refine wq_iload_n rfl rfl hv1 ?_
        refine wq_i2l rfl hv1 ?_
        obtain ⟨y55, e56, h⟩ := od_bindE h
        refine wd_virtN (q := 0) (y := y55) (as := [36893488147419103232, 3, 31, 7, ev_oI2l v1]) rfl rfl rfl (by decide) (Nat.le_of_ble_eq_true rfl) (Nat.le_of_ble_eq_true rfl) rfl (Nat.le_of_ble_eq_true rfl) rfl (dkT_39 hT (by decide) (by decide) (by decide) (wq_i2l_L hv1) e56) (fun T58 => ?_)
        obtain ⟨y59, e60, h⟩ := od_letE h
        have p61 : y59 < 4294967296 := wd_lt e60 (Nat.mod_lt _ (by decide))
        refine wq_iincZ rfl rfl hv1 (Or.inr ⟨_, rfl, rfl⟩) rfl (z := y59) e60.symm (L' := [36893488147419103232, y59, u2]) rfl ?_
        refine wq_goto rfl rfl ?_
        exact hr158 T58 p61 hu2 h
    · replace h := od_pos h h43
      refine wq_bipush rfl rfl ?_
      refine wq_goto rfl rfl ?_
      refine wq_bipush rfl rfl ?_
      refine wq_iload_n rfl rfl hv1 ?_
      refine wq_i2l rfl hv1 ?_
      obtain ⟨y62, e63, h⟩ := od_bindE h
      refine wd_virtN (q := 0) (y := y62) (as := [36893488147419103232, 3, 29, 7, ev_oI2l v1]) rfl rfl rfl (by decide) (Nat.le_of_ble_eq_true rfl) (Nat.le_of_ble_eq_true rfl) rfl (Nat.le_of_ble_eq_true rfl) rfl (dkT_39 hT (by decide) (by decide) (by decide) (wq_i2l_L hv1) e63) (fun T65 => ?_)
      obtain ⟨y66, e67, h⟩ := od_letE h
      have p68 : y66 < 4294967296 := wd_lt e67 (Nat.mod_lt _ (by decide))
      refine wq_iincZ rfl rfl hv1 (Or.inr ⟨_, rfl, rfl⟩) rfl (z := y66) e67.symm (L' := [36893488147419103232, y66, u2]) rfl ?_
      refine wq_goto rfl rfl ?_
      exact hr158 T65 p68 hu2 h
def dk_38_158 (n : Nat) : Nat → wq_F → Nat → Option (Nat × wq_F)
  | 0 => fun _ _ => none
  | g + 1 => dk_38_158b n (dk_38_158 n g)
theorem dk_38_158T {d n : Nat} : ∀ g : Nat, ∀ ⦃u2 : Nat⦄ ⦃F : wq_F⦄ (hT : wm_T F) ⦃v1 : Nat⦄ (hv1 : v1 < 4294967296) (hu2 : ev_isL u2 = false) ⦃x : Nat × wq_F⦄ (h : dk_38_158 n g F v1 = some x), wq (wq_cf (d + 4)) (ev_un al_mX12_reload.2.2.2.2) none 158 [36893488147419103232, v1, u2] [] wm_sh F 0 0 (wkN wm_T wm_sh x)
  | 0 => by
    intro u2 F hT v1 hv1 hu2 x h
    cases h
  | g + 1 => dk_38_158bT (dk_38_158T g)
def dk_38_127b (n : Nat) (r127 : wq_F → Nat → Option (Nat × wq_F)) (F : wq_F) (v1 : Nat) : Option (Nat × wq_F) :=
  if ev_s v1 < ev_s 26 then
    od_let ((((62 + v1) % 4294967296) + (4294967296 - 22)) % 4294967296) fun y2 =>
    (dk_39 n F 2 y2 7 (ev_oI2l v1)).bind fun y5 =>
    od_let ((v1 + 1) % 4294967296) fun y9 =>
    r127 y5.2 y9
  else
    dk_38_158 n n F 26
theorem dk_38_127bT {d n : Nat} {r127 : wq_F → Nat → Option (Nat × wq_F)} (hr127 : ∀ ⦃u2 : Nat⦄ ⦃F : wq_F⦄ (hT : wm_T F) ⦃v1 : Nat⦄ (hv1 : v1 < 4294967296) (hu2 : ev_isL u2 = false) ⦃x : Nat × wq_F⦄ (h : r127 F v1 = some x), wq (wq_cf (d + 4)) (ev_un al_mX12_reload.2.2.2.2) none 127 [36893488147419103232, v1, u2] [] wm_sh F 0 0 (wkN wm_T wm_sh x)) : ∀ ⦃u2 : Nat⦄ ⦃F : wq_F⦄ (hT : wm_T F) ⦃v1 : Nat⦄ (hv1 : v1 < 4294967296) (hu2 : ev_isL u2 = false) ⦃x : Nat × wq_F⦄ (h : dk_38_127b n r127 F v1 = some x), wq (wq_cf (d + 4)) (ev_un al_mX12_reload.2.2.2.2) none 127 [36893488147419103232, v1, u2] [] wm_sh F 0 0 (wkN wm_T wm_sh x) := by
  intro u2 F hT v1 hv1 hu2 x h
  unfold dk_38_127b at h
  refine wq_iload_n rfl rfl hv1 ?_
  refine wq_bipush rfl rfl ?_
  refine wq_ic_ge rfl rfl hv1 (by decide) (fun h1 => ?_) (fun h1 => ?_)
  · replace h := od_neg h (Nat.not_lt.mpr h1)
    refine wq_bipush rfl rfl ?_
    refine wq_istore_n rfl (by decide) (Nat.le_of_ble_eq_true rfl) (Or.inr ⟨_, rfl, rfl⟩) (L' := [36893488147419103232, 26, u2]) rfl ?_
    exact dk_38_158T n hT (by decide) hu2 h
  · replace h := od_pos h h1
    refine wq_aload_n rfl rfl rfl ?_
    refine wq_iconst rfl rfl ?_
    refine wq_bipush rfl rfl ?_
    refine wq_iload_n rfl rfl hv1 ?_
    refine wq_iaddZ rfl (by decide) hv1 (z := (62 + v1) % 4294967296) rfl ?_
    refine wq_bipush rfl rfl ?_
    refine wq_isubZ rfl (Nat.mod_lt _ (by decide)) (by decide) (z := (((62 + v1) % 4294967296) + (4294967296 - 22)) % 4294967296) rfl ?_
    obtain ⟨y2, e3, h⟩ := od_letE h
    refine wq_top e3.symm ?_
    have p4 : y2 < 4294967296 := wd_lt e3 (Nat.mod_lt _ (by decide))
    refine wq_bipush rfl rfl ?_
    refine wq_iload_n rfl rfl hv1 ?_
    refine wq_i2l rfl hv1 ?_
    obtain ⟨y5, e6, h⟩ := od_bindE h
    refine wd_virtN (q := 0) (y := y5) (as := [36893488147419103232, 2, y2, 7, ev_oI2l v1]) rfl rfl rfl (by decide) (Nat.le_of_ble_eq_true rfl) (Nat.le_of_ble_eq_true rfl) rfl (Nat.le_of_ble_eq_true rfl) rfl (dkT_39 hT (by decide) p4 (by decide) (wq_i2l_L hv1) e6) (fun T8 => ?_)
    obtain ⟨y9, e10, h⟩ := od_letE h
    have p11 : y9 < 4294967296 := wd_lt e10 (Nat.mod_lt _ (by decide))
    refine wq_iincZ rfl rfl hv1 (Or.inr ⟨_, rfl, rfl⟩) rfl (z := y9) e10.symm (L' := [36893488147419103232, y9, u2]) rfl ?_
    refine wq_goto rfl rfl ?_
    exact hr127 T8 p11 hu2 h
def dk_38_127 (n : Nat) : Nat → wq_F → Nat → Option (Nat × wq_F)
  | 0 => fun _ _ => none
  | g + 1 => dk_38_127b n (dk_38_127 n g)
theorem dk_38_127T {d n : Nat} : ∀ g : Nat, ∀ ⦃u2 : Nat⦄ ⦃F : wq_F⦄ (hT : wm_T F) ⦃v1 : Nat⦄ (hv1 : v1 < 4294967296) (hu2 : ev_isL u2 = false) ⦃x : Nat × wq_F⦄ (h : dk_38_127 n g F v1 = some x), wq (wq_cf (d + 4)) (ev_un al_mX12_reload.2.2.2.2) none 127 [36893488147419103232, v1, u2] [] wm_sh F 0 0 (wkN wm_T wm_sh x)
  | 0 => by
    intro u2 F hT v1 hv1 hu2 x h
    cases h
  | g + 1 => dk_38_127bT (dk_38_127T g)
def dk_38_96b (n : Nat) (r96 : wq_F → Nat → Option (Nat × wq_F)) (F : wq_F) (v1 : Nat) : Option (Nat × wq_F) :=
  if ev_s v1 < ev_s 22 then
    od_let ((((57 + v1) % 4294967296) + (4294967296 - 17)) % 4294967296) fun y2 =>
    (dk_39 n F 1 y2 7 (ev_oI2l v1)).bind fun y5 =>
    od_let ((v1 + 1) % 4294967296) fun y9 =>
    r96 y5.2 y9
  else
    dk_38_127 n n F 22
theorem dk_38_96bT {d n : Nat} {r96 : wq_F → Nat → Option (Nat × wq_F)} (hr96 : ∀ ⦃u2 : Nat⦄ ⦃F : wq_F⦄ (hT : wm_T F) ⦃v1 : Nat⦄ (hv1 : v1 < 4294967296) (hu2 : ev_isL u2 = false) ⦃x : Nat × wq_F⦄ (h : r96 F v1 = some x), wq (wq_cf (d + 4)) (ev_un al_mX12_reload.2.2.2.2) none 96 [36893488147419103232, v1, u2] [] wm_sh F 0 0 (wkN wm_T wm_sh x)) : ∀ ⦃u2 : Nat⦄ ⦃F : wq_F⦄ (hT : wm_T F) ⦃v1 : Nat⦄ (hv1 : v1 < 4294967296) (hu2 : ev_isL u2 = false) ⦃x : Nat × wq_F⦄ (h : dk_38_96b n r96 F v1 = some x), wq (wq_cf (d + 4)) (ev_un al_mX12_reload.2.2.2.2) none 96 [36893488147419103232, v1, u2] [] wm_sh F 0 0 (wkN wm_T wm_sh x) := by
  intro u2 F hT v1 hv1 hu2 x h
  unfold dk_38_96b at h
  refine wq_iload_n rfl rfl hv1 ?_
  refine wq_bipush rfl rfl ?_
  refine wq_ic_ge rfl rfl hv1 (by decide) (fun h1 => ?_) (fun h1 => ?_)
  · replace h := od_neg h (Nat.not_lt.mpr h1)
    refine wq_bipush rfl rfl ?_
    refine wq_istore_n rfl (by decide) (Nat.le_of_ble_eq_true rfl) (Or.inr ⟨_, rfl, rfl⟩) (L' := [36893488147419103232, 22, u2]) rfl ?_
    exact dk_38_127T n hT (by decide) hu2 h
  · replace h := od_pos h h1
    refine wq_aload_n rfl rfl rfl ?_
    refine wq_iconst rfl rfl ?_
    refine wq_bipush rfl rfl ?_
    refine wq_iload_n rfl rfl hv1 ?_
    refine wq_iaddZ rfl (by decide) hv1 (z := (57 + v1) % 4294967296) rfl ?_
    refine wq_bipush rfl rfl ?_
    refine wq_isubZ rfl (Nat.mod_lt _ (by decide)) (by decide) (z := (((57 + v1) % 4294967296) + (4294967296 - 17)) % 4294967296) rfl ?_
    obtain ⟨y2, e3, h⟩ := od_letE h
    refine wq_top e3.symm ?_
    have p4 : y2 < 4294967296 := wd_lt e3 (Nat.mod_lt _ (by decide))
    refine wq_bipush rfl rfl ?_
    refine wq_iload_n rfl rfl hv1 ?_
    refine wq_i2l rfl hv1 ?_
    obtain ⟨y5, e6, h⟩ := od_bindE h
    refine wd_virtN (q := 0) (y := y5) (as := [36893488147419103232, 1, y2, 7, ev_oI2l v1]) rfl rfl rfl (by decide) (Nat.le_of_ble_eq_true rfl) (Nat.le_of_ble_eq_true rfl) rfl (Nat.le_of_ble_eq_true rfl) rfl (dkT_39 hT (wm_zlt (by decide)) p4 (by decide) (wq_i2l_L hv1) e6) (fun T8 => ?_)
    obtain ⟨y9, e10, h⟩ := od_letE h
    have p11 : y9 < 4294967296 := wd_lt e10 (Nat.mod_lt _ (by decide))
    refine wq_iincZ rfl rfl hv1 (Or.inr ⟨_, rfl, rfl⟩) rfl (z := y9) e10.symm (L' := [36893488147419103232, y9, u2]) rfl ?_
    refine wq_goto rfl rfl ?_
    exact hr96 T8 p11 hu2 h
def dk_38_96 (n : Nat) : Nat → wq_F → Nat → Option (Nat × wq_F)
  | 0 => fun _ _ => none
  | g + 1 => dk_38_96b n (dk_38_96 n g)
theorem dk_38_96T {d n : Nat} : ∀ g : Nat, ∀ ⦃u2 : Nat⦄ ⦃F : wq_F⦄ (hT : wm_T F) ⦃v1 : Nat⦄ (hv1 : v1 < 4294967296) (hu2 : ev_isL u2 = false) ⦃x : Nat × wq_F⦄ (h : dk_38_96 n g F v1 = some x), wq (wq_cf (d + 4)) (ev_un al_mX12_reload.2.2.2.2) none 96 [36893488147419103232, v1, u2] [] wm_sh F 0 0 (wkN wm_T wm_sh x)
  | 0 => by
    intro u2 F hT v1 hv1 hu2 x h
    cases h
  | g + 1 => dk_38_96bT (dk_38_96T g)
def dk_38_62b (n : Nat) (r62 : wq_F → Nat → Option (Nat × wq_F)) (F : wq_F) (v1 : Nat) : Option (Nat × wq_F) :=
  if ev_s v1 < ev_s 3 then
    (dk_43 F 4).bind fun y2 =>
    (dk_39 n y2.2 2001 ((54 + v1) % 4294967296) 4 (ev_oI2l y2.1)).bind fun y6 =>
    od_let ((v1 + 1) % 4294967296) fun y10 =>
    r62 y6.2 y10
  else
    dk_38_96 n n F 17
theorem dk_38_62bT {d n : Nat} {r62 : wq_F → Nat → Option (Nat × wq_F)} (hr62 : ∀ ⦃u2 : Nat⦄ ⦃F : wq_F⦄ (hT : wm_T F) ⦃v1 : Nat⦄ (hv1 : v1 < 4294967296) (hu2 : ev_isL u2 = false) ⦃x : Nat × wq_F⦄ (h : r62 F v1 = some x), wq (wq_cf (d + 4)) (ev_un al_mX12_reload.2.2.2.2) none 62 [36893488147419103232, v1, u2] [] wm_sh F 0 0 (wkN wm_T wm_sh x)) : ∀ ⦃u2 : Nat⦄ ⦃F : wq_F⦄ (hT : wm_T F) ⦃v1 : Nat⦄ (hv1 : v1 < 4294967296) (hu2 : ev_isL u2 = false) ⦃x : Nat × wq_F⦄ (h : dk_38_62b n r62 F v1 = some x), wq (wq_cf (d + 4)) (ev_un al_mX12_reload.2.2.2.2) none 62 [36893488147419103232, v1, u2] [] wm_sh F 0 0 (wkN wm_T wm_sh x) := by
  intro u2 F hT v1 hv1 hu2 x h
  unfold dk_38_62b at h
  refine wq_iload_n rfl rfl hv1 ?_
  refine wq_iconst rfl rfl ?_
  refine wq_ic_ge rfl rfl hv1 (by decide) (fun h1 => ?_) (fun h1 => ?_)
  · replace h := od_neg h (Nat.not_lt.mpr h1)
    refine wq_bipush rfl rfl ?_
    refine wq_istore_n rfl (by decide) (Nat.le_of_ble_eq_true rfl) (Or.inr ⟨_, rfl, rfl⟩) (L' := [36893488147419103232, 17, u2]) rfl ?_
    exact dk_38_96T n hT (by decide) hu2 h
  · replace h := od_pos h h1
    refine wq_aload_n rfl rfl rfl ?_
    refine wq_iconst rfl rfl ?_
    obtain ⟨y2, e3, h⟩ := od_bindE h
    refine wd_virtI (q := 0) (y := y2) (as := [36893488147419103232, 4]) rfl rfl rfl (by decide) (Nat.le_of_ble_eq_true rfl) (Nat.le_of_ble_eq_true rfl) rfl (Nat.le_of_ble_eq_true rfl) rfl (dkT_43 hT (by decide) e3) (fun p4 T5 => ?_)
    refine wq_istore_n rfl p4 (Nat.le_of_ble_eq_true rfl) (Or.inr ⟨_, rfl, (wq_notL hv1)⟩) (L' := [36893488147419103232, v1, y2.1]) rfl ?_
    refine wq_aload_n rfl rfl rfl ?_
    refine wq_sipush rfl rfl ?_
    refine wq_bipush rfl rfl ?_
    refine wq_iload_n rfl rfl hv1 ?_
    refine wq_iaddZ rfl (by decide) hv1 (z := (54 + v1) % 4294967296) rfl ?_
    refine wq_iconst rfl rfl ?_
    refine wq_iload_n rfl rfl p4 ?_
    refine wq_i2l rfl p4 ?_
    obtain ⟨y6, e7, h⟩ := od_bindE h
    refine wd_virtN (q := 0) (y := y6) (as := [36893488147419103232, 2001, (54 + v1) % 4294967296, 4, ev_oI2l y2.1]) rfl rfl rfl (by decide) (Nat.le_of_ble_eq_true rfl) (Nat.le_of_ble_eq_true rfl) rfl (Nat.le_of_ble_eq_true rfl) rfl (dkT_39 T5 (by decide) (Nat.mod_lt _ (by decide)) (by decide) (wq_i2l_L p4) e7) (fun T9 => ?_)
    obtain ⟨y10, e11, h⟩ := od_letE h
    have p12 : y10 < 4294967296 := wd_lt e11 (Nat.mod_lt _ (by decide))
    refine wq_iincZ rfl rfl hv1 (Or.inr ⟨_, rfl, rfl⟩) rfl (z := y10) e11.symm (L' := [36893488147419103232, y10, y2.1]) rfl ?_
    refine wq_goto rfl rfl ?_
    exact hr62 T9 p12 (wq_notL p4) h
def dk_38_62 (n : Nat) : Nat → wq_F → Nat → Option (Nat × wq_F)
  | 0 => fun _ _ => none
  | g + 1 => dk_38_62b n (dk_38_62 n g)
theorem dk_38_62T {d n : Nat} : ∀ g : Nat, ∀ ⦃u2 : Nat⦄ ⦃F : wq_F⦄ (hT : wm_T F) ⦃v1 : Nat⦄ (hv1 : v1 < 4294967296) (hu2 : ev_isL u2 = false) ⦃x : Nat × wq_F⦄ (h : dk_38_62 n g F v1 = some x), wq (wq_cf (d + 4)) (ev_un al_mX12_reload.2.2.2.2) none 62 [36893488147419103232, v1, u2] [] wm_sh F 0 0 (wkN wm_T wm_sh x)
  | 0 => by
    intro u2 F hT v1 hv1 hu2 x h
    cases h
  | g + 1 => dk_38_62bT (dk_38_62T g)
def dk_38_33b (n : Nat) (r33 : wq_F → Nat → Option (Nat × wq_F)) (F : wq_F) (v1 : Nat) : Option (Nat × wq_F) :=
  if ev_s v1 < ev_s 17 then
    (dk_39 n F 2001 ((37 + v1) % 4294967296) 7 (ev_oI2l v1)).bind fun y2 =>
    od_let ((v1 + 1) % 4294967296) fun y6 =>
    r33 y2.2 y6
  else
    dk_38_62 n n F 0
theorem dk_38_33bT {d n : Nat} {r33 : wq_F → Nat → Option (Nat × wq_F)} (hr33 : ∀ ⦃F : wq_F⦄ (hT : wm_T F) ⦃v1 : Nat⦄ (hv1 : v1 < 4294967296) ⦃x : Nat × wq_F⦄ (h : r33 F v1 = some x), wq (wq_cf (d + 4)) (ev_un al_mX12_reload.2.2.2.2) none 33 [36893488147419103232, v1, 73786976294838206464] [] wm_sh F 0 0 (wkN wm_T wm_sh x)) : ∀ ⦃F : wq_F⦄ (hT : wm_T F) ⦃v1 : Nat⦄ (hv1 : v1 < 4294967296) ⦃x : Nat × wq_F⦄ (h : dk_38_33b n r33 F v1 = some x), wq (wq_cf (d + 4)) (ev_un al_mX12_reload.2.2.2.2) none 33 [36893488147419103232, v1, 73786976294838206464] [] wm_sh F 0 0 (wkN wm_T wm_sh x) := by
  intro F hT v1 hv1 x h
  unfold dk_38_33b at h
  refine wq_iload_n rfl rfl hv1 ?_
  refine wq_bipush rfl rfl ?_
  refine wq_ic_ge rfl rfl hv1 (by decide) (fun h1 => ?_) (fun h1 => ?_)
  · replace h := od_neg h (Nat.not_lt.mpr h1)
    refine wq_iconst rfl rfl ?_
    refine wq_istore_n rfl (wm_zlt (by decide)) (Nat.le_of_ble_eq_true rfl) (Or.inr ⟨_, rfl, rfl⟩) (L' := [36893488147419103232, 0, 73786976294838206464]) rfl ?_
    exact dk_38_62T n hT (wm_zlt (by decide)) rfl h
  · replace h := od_pos h h1
    refine wq_aload_n rfl rfl rfl ?_
    refine wq_sipush rfl rfl ?_
    refine wq_bipush rfl rfl ?_
    refine wq_iload_n rfl rfl hv1 ?_
    refine wq_iaddZ rfl (by decide) hv1 (z := (37 + v1) % 4294967296) rfl ?_
    refine wq_bipush rfl rfl ?_
    refine wq_iload_n rfl rfl hv1 ?_
    refine wq_i2l rfl hv1 ?_
    obtain ⟨y2, e3, h⟩ := od_bindE h
    refine wd_virtN (q := 0) (y := y2) (as := [36893488147419103232, 2001, (37 + v1) % 4294967296, 7, ev_oI2l v1]) rfl rfl rfl (by decide) (Nat.le_of_ble_eq_true rfl) (Nat.le_of_ble_eq_true rfl) rfl (Nat.le_of_ble_eq_true rfl) rfl (dkT_39 hT (by decide) (Nat.mod_lt _ (by decide)) (by decide) (wq_i2l_L hv1) e3) (fun T5 => ?_)
    obtain ⟨y6, e7, h⟩ := od_letE h
    have p8 : y6 < 4294967296 := wd_lt e7 (Nat.mod_lt _ (by decide))
    refine wq_iincZ rfl rfl hv1 (Or.inr ⟨_, rfl, rfl⟩) rfl (z := y6) e7.symm (L' := [36893488147419103232, y6, 73786976294838206464]) rfl ?_
    refine wq_goto rfl rfl ?_
    exact hr33 T5 p8 h
def dk_38_33 (n : Nat) : Nat → wq_F → Nat → Option (Nat × wq_F)
  | 0 => fun _ _ => none
  | g + 1 => dk_38_33b n (dk_38_33 n g)
theorem dk_38_33T {d n : Nat} : ∀ g : Nat, ∀ ⦃F : wq_F⦄ (hT : wm_T F) ⦃v1 : Nat⦄ (hv1 : v1 < 4294967296) ⦃x : Nat × wq_F⦄ (h : dk_38_33 n g F v1 = some x), wq (wq_cf (d + 4)) (ev_un al_mX12_reload.2.2.2.2) none 33 [36893488147419103232, v1, 73786976294838206464] [] wm_sh F 0 0 (wkN wm_T wm_sh x)
  | 0 => by
    intro F hT v1 hv1 x h
    cases h
  | g + 1 => dk_38_33bT (dk_38_33T g)
/-- X12_reload -/
def dk_38 (n : Nat) (F : wq_F) : Option (Nat × wq_F) :=
  (dk_46 n F).bind fun y1 =>
  od_g (2001 < 2002) <|
  od_up y1.2 40 2001 4294967295 fun F6 =>
  od_g (2001 < 2002) <|
  od_up F6 41 2001 4294967295 fun F10 =>
  od_g (2001 < 2002) <|
  od_up F10 39 2001 0 fun F14 =>
  dk_38_33 n n F14 0
theorem dkT_38 {d n : Nat} {F : wq_F} (hT : wm_T F) {x : Nat × wq_F} (h : dk_38 n F = some x) : mq (d + 4 + 1) 38 [36893488147419103232] wm_sh F (wkN wm_T wm_sh x) := by
  have e : ev_ent [36893488147419103232] = [36893488147419103232] := by
    rfl
  refine mq_of (maxL := 3) (rt := none) (code := (ev_un al_mX12_reload.2.2.2.2)) (L := [36893488147419103232, 73786976294838206464, 73786976294838206464]) rfl (by rw [e]; exact Nat.le_of_ble_eq_true rfl) (by rw [e]; rfl) ?_
  unfold dk_38 at h
  refine wq_aload_n rfl rfl rfl ?_
  obtain ⟨y1, e2, h⟩ := od_bindE h
  refine wd_virtN (q := 0) (y := y1) (as := [36893488147419103232]) rfl rfl rfl (by decide) (Nat.le_of_ble_eq_true rfl) (Nat.le_of_ble_eq_true rfl) rfl (Nat.le_of_ble_eq_true rfl) rfl (dkT_46 hT e2) (fun T4 => ?_)
  refine wq_aload_n rfl rfl rfl ?_
  refine wm_getR (v := 36893488147419103272) rfl (by decide) (T4.r 72 39 rfl) ?_
  refine wq_sipush rfl rfl ?_
  refine wq_iconst rfl rfl ?_
  obtain ⟨g5, h⟩ := od_gE h
  obtain ⟨F6, e7, h⟩ := od_upE h
  refine wd_iastore (q := 40) (n := 2002) rfl rfl (by decide) g5 (by decide) (by decide) e7 ?_
  have T8 : wm_T F6 := wd_T e7 (T4.ua (k := 40) (kd := 1000) (n := 2002) (i := 2001) (v := 4294967295) rfl (by decide) g5 (show 4294967295 < 4294967296 from (by decide)))
  refine wq_aload_n rfl rfl rfl ?_
  refine wm_getR (v := 36893488147419103273) rfl (by decide) (T8.r 73 40 rfl) ?_
  refine wq_sipush rfl rfl ?_
  refine wq_iconst rfl rfl ?_
  obtain ⟨g9, h⟩ := od_gE h
  obtain ⟨F10, e11, h⟩ := od_upE h
  refine wd_iastore (q := 41) (n := 2002) rfl rfl (by decide) g9 (by decide) (by decide) e11 ?_
  have T12 : wm_T F10 := wd_T e11 (T8.ua (k := 41) (kd := 1000) (n := 2002) (i := 2001) (v := 4294967295) rfl (by decide) g9 (show 4294967295 < 4294967296 from (by decide)))
  refine wq_aload_n rfl rfl rfl ?_
  refine wm_getR (v := 36893488147419103271) rfl (by decide) (T12.r 71 38 rfl) ?_
  refine wq_sipush rfl rfl ?_
  refine wq_iconst rfl rfl ?_
  obtain ⟨g13, h⟩ := od_gE h
  obtain ⟨F14, e15, h⟩ := od_upE h
  refine wd_iastore (q := 39) (n := 2002) rfl rfl (by decide) g13 (by decide) (wm_zlt (by decide)) e15 ?_
  have T16 : wm_T F14 := wd_T e15 (T12.ua (k := 39) (kd := 1000) (n := 2002) (i := 2001) (v := 0) rfl (by decide) g13 (show 0 < 4294967296 from (wm_zlt (by decide))))
  refine wq_iconst rfl rfl ?_
  refine wq_istore_n rfl (wm_zlt (by decide)) (Nat.le_of_ble_eq_true rfl) (Or.inr ⟨_, rfl, rfl⟩) (L' := [36893488147419103232, 0, 73786976294838206464]) rfl ?_
  exact dk_38_33T n T16 (wm_zlt (by decide)) h
def dk_24_24b (n : Nat) (r24 : wq_F → Nat → Option (Nat × wq_F)) (F : wq_F) (v1 : Nat) : Option (Nat × wq_F) :=
  if ev_s v1 < ev_s (F 0 65) then
    if v1 = 29 then
      od_g (v1 < 3000) <|
      od_up F 5 v1 1 fun F36 =>
      od_let ((v1 + 1) % 4294967296) fun y39 =>
      r24 F36 y39
    else
      if v1 = 31 then
        od_g (v1 < 3000) <|
        od_up F 5 v1 1 fun F44 =>
        od_let ((v1 + 1) % 4294967296) fun y47 =>
        r24 F44 y47
      else
        if v1 = 36 then
          od_g (v1 < 3000) <|
          od_up F 5 v1 1 fun F52 =>
          od_let ((v1 + 1) % 4294967296) fun y55 =>
          r24 F52 y55
        else
          if ev_s v1 < ev_s 37 then
            od_g (v1 < 3000) <|
            od_up F 5 v1 0 fun F60 =>
            od_let ((v1 + 1) % 4294967296) fun y63 =>
            r24 F60 y63
          else
            od_g (v1 < 3000) <|
            od_up F 5 v1 1 fun F67 =>
            od_let ((v1 + 1) % 4294967296) fun y70 =>
            r24 F67 y70
  else
    od_up F 0 4 0 fun F2 =>
    (dk_26 n F2).bind fun y5 =>
    (dk_29 n y5.2).bind fun y9 =>
    if y9.1 = 0 then
      (dk_196 y9.2 (y9.2 0 5)).bind fun y27 =>
      od_up y27.2 0 6 y27.1 fun F31 =>
      some (ev_oNeg (F31 0 4), F31)
    else
      od_up y9.2 0 15 (y9.2 0 14) fun F14 =>
      od_up F14 0 16 (F14 0 8) fun F17 =>
      od_up F17 0 3 1 fun F20 =>
      (dk_38 n F20).bind fun y23 =>
      some (y23.2 0 34, y23.2)
theorem dk_24_24bT {d n : Nat} {r24 : wq_F → Nat → Option (Nat × wq_F)} (hr24 : ∀ ⦃F : wq_F⦄ (hT : wm_T F) ⦃v1 : Nat⦄ (hv1 : v1 < 4294967296) ⦃x : Nat × wq_F⦄ (h : r24 F v1 = some x), wq (wq_cf (d + 8)) (ev_un al_mX12_compile.2.2.2.2) (some .int) 24 [36893488147419103232, v1] [] wm_sh F 0 0 (wkI wm_T wm_sh x)) : ∀ ⦃F : wq_F⦄ (hT : wm_T F) ⦃v1 : Nat⦄ (hv1 : v1 < 4294967296) ⦃x : Nat × wq_F⦄ (h : dk_24_24b n r24 F v1 = some x), wq (wq_cf (d + 8)) (ev_un al_mX12_compile.2.2.2.2) (some .int) 24 [36893488147419103232, v1] [] wm_sh F 0 0 (wkI wm_T wm_sh x) := by
  intro F hT v1 hv1 x h
  unfold dk_24_24b at h
  refine wq_iload_n rfl rfl hv1 ?_
  refine wq_aload_n rfl rfl rfl ?_
  refine wm_getI rfl (by decide) ?_
  refine wq_ic_ge rfl rfl hv1 (hT.i 65 rfl) (fun h1 => ?_) (fun h1 => ?_)
  · replace h := od_neg h (Nat.not_lt.mpr h1)
    refine wq_aload_n rfl rfl rfl ?_
    refine wq_iconst rfl rfl ?_
    obtain ⟨F2, e3, h⟩ := od_upE h
    refine wmE_put rfl (by decide) (wq_I (wm_zlt (by decide))) e3 ?_
    have T4 : wm_T F2 := wd_T e3 (hT.uf (f := 4) (c := 0) (v := 0) rfl (show 0 < 4294967296 from (wm_zlt (by decide))))
    refine wq_aload_n rfl rfl rfl ?_
    obtain ⟨y5, e6, h⟩ := od_bindE h
    refine wd_virtN (q := 0) (y := y5) (as := [36893488147419103232]) rfl rfl rfl (by decide) (Nat.le_of_ble_eq_true rfl) (Nat.le_of_ble_eq_true rfl) rfl (Nat.le_of_ble_eq_true rfl) rfl (dkT_26 T4 e6) (fun T8 => ?_)
    refine wq_aload_n rfl rfl rfl ?_
    obtain ⟨y9, e10, h⟩ := od_bindE h
    refine wd_virtZ (q := 0) (y := y9) (as := [36893488147419103232]) rfl rfl rfl (by decide) (Nat.le_of_ble_eq_true rfl) (Nat.le_of_ble_eq_true rfl) rfl (Nat.le_of_ble_eq_true rfl) rfl (dkT_29 T8 e10) (fun p11 T12 => ?_)
    refine wq_if_ne rfl rfl (wm_zlt p11) (fun h13 => ?_) (fun h13 => ?_)
    · replace h := od_neg h h13
      refine wq_aload_n rfl rfl rfl ?_
      refine wq_aload_n rfl rfl rfl ?_
      refine wm_getI rfl (by decide) ?_
      obtain ⟨F14, e15, h⟩ := od_upE h
      refine wmE_put rfl (by decide) (wq_I (T12.i 14 rfl)) e15 ?_
      have T16 : wm_T F14 := wd_T e15 (T12.uf (f := 15) (c := 0) (v := y9.2 0 14) rfl (show y9.2 0 14 < 4294967296 from (T12.i 14 rfl)))
      refine wq_aload_n rfl rfl rfl ?_
      refine wq_aload_n rfl rfl rfl ?_
      refine wm_getI rfl (by decide) ?_
      obtain ⟨F17, e18, h⟩ := od_upE h
      refine wmE_put rfl (by decide) (wq_I (T16.i 8 rfl)) e18 ?_
      have T19 : wm_T F17 := wd_T e18 (T16.uf (f := 16) (c := 0) (v := F14 0 8) rfl (show F14 0 8 < 4294967296 from (T16.i 8 rfl)))
      refine wq_aload_n rfl rfl rfl ?_
      refine wq_iconst rfl rfl ?_
      obtain ⟨F20, e21, h⟩ := od_upE h
      refine wmE_put rfl (by decide) (wm_fitZ (by decide)) e21 ?_
      have T22 : wm_T F20 := wd_T e21 (T19.uf (f := 3) (c := 2) (v := 1) rfl (show 1 < 2 from (by decide)))
      refine wq_aload_n rfl rfl rfl ?_
      obtain ⟨y23, e24, h⟩ := od_bindE h
      refine wd_virtN (q := 0) (y := y23) (as := [36893488147419103232]) rfl rfl rfl (by decide) (Nat.le_of_ble_eq_true rfl) (Nat.le_of_ble_eq_true rfl) rfl (Nat.le_of_ble_eq_true rfl) rfl (dkT_38 T22 e24) (fun T26 => ?_)
      refine wq_aload_n rfl rfl rfl ?_
      refine wm_getI rfl (by decide) ?_
      exact wq_iret rfl (T26.i 34 rfl) rfl (wkOI h T26 (T26.i 34 rfl))
    · replace h := od_pos h h13
      refine wq_aload_n rfl rfl rfl ?_
      refine wq_aload_n rfl rfl rfl ?_
      refine wq_aload_n rfl rfl rfl ?_
      refine wm_getI rfl (by decide) ?_
      obtain ⟨y27, e28, h⟩ := od_bindE h
      refine wd_virtI (q := 0) (y := y27) (as := [36893488147419103232, y9.2 0 5]) rfl rfl rfl (by decide) (Nat.le_of_ble_eq_true rfl) (Nat.le_of_ble_eq_true rfl) rfl (Nat.le_of_ble_eq_true rfl) rfl (dkT_196 T12 (T12.i 5 rfl) e28) (fun p29 T30 => ?_)
      obtain ⟨F31, e32, h⟩ := od_upE h
      refine wmE_put rfl (by decide) (wq_I p29) e32 ?_
      have T33 : wm_T F31 := wd_T e32 (T30.uf (f := 6) (c := 0) (v := y27.1) rfl (show y27.1 < 4294967296 from p29))
      refine wq_aload_n rfl rfl rfl ?_
      refine wm_getI rfl (by decide) ?_
      refine wq_ineg rfl (T33.i 4 rfl) ?_
      exact wq_iret rfl (Nat.mod_lt _ (by decide)) rfl (wkOI h T33 (Nat.mod_lt _ (by decide)))
  · replace h := od_pos h h1
    refine wq_aload_n rfl rfl rfl ?_
    refine wm_getR (v := 36893488147419103237) rfl (by decide) (hT.r 11 4 rfl) ?_
    refine wq_iload_n rfl rfl hv1 ?_
    refine wq_iload_n rfl rfl hv1 ?_
    refine wq_bipush rfl rfl ?_
    refine wq_ic_eq rfl rfl hv1 (by decide) (fun h34 => ?_) (fun h34 => ?_)
    · replace h := od_pos h h34
      refine wq_iconst rfl rfl ?_
      refine wq_goto rfl rfl ?_
      obtain ⟨g35, h⟩ := od_gE h
      obtain ⟨F36, e37, h⟩ := od_upE h
      refine wd_iastore (q := 5) (n := 3000) rfl rfl (by decide) g35 (by decide) (wm_zlt (by decide)) e37 ?_
      have T38 : wm_T F36 := wd_T e37 (hT.ua (k := 5) (kd := 1000) (n := 3000) (i := v1) (v := 1) rfl (by decide) g35 (show 1 < 4294967296 from (wm_zlt (by decide))))
      obtain ⟨y39, e40, h⟩ := od_letE h
      have p41 : y39 < 4294967296 := wd_lt e40 (Nat.mod_lt _ (by decide))
      refine wq_iincZ rfl rfl hv1 (Or.inr ⟨_, rfl, rfl⟩) rfl (z := y39) e40.symm (L' := [36893488147419103232, y39]) rfl ?_
      refine wq_goto rfl rfl ?_
      exact hr24 T38 p41 h
    · replace h := od_neg h h34
      refine wq_iload_n rfl rfl hv1 ?_
      refine wq_bipush rfl rfl ?_
      refine wq_ic_eq rfl rfl hv1 (by decide) (fun h42 => ?_) (fun h42 => ?_)
      · replace h := od_pos h h42
        refine wq_iconst rfl rfl ?_
        refine wq_goto rfl rfl ?_
        obtain ⟨g43, h⟩ := od_gE h
        obtain ⟨F44, e45, h⟩ := od_upE h
        refine wd_iastore (q := 5) (n := 3000) rfl rfl (by decide) g43 (by decide) (wm_zlt (by decide)) e45 ?_
        have T46 : wm_T F44 := wd_T e45 (hT.ua (k := 5) (kd := 1000) (n := 3000) (i := v1) (v := 1) rfl (by decide) g43 (show 1 < 4294967296 from (wm_zlt (by decide))))
        obtain ⟨y47, e48, h⟩ := od_letE h
        have p49 : y47 < 4294967296 := wd_lt e48 (Nat.mod_lt _ (by decide))
        refine wq_iincZ rfl rfl hv1 (Or.inr ⟨_, rfl, rfl⟩) rfl (z := y47) e48.symm (L' := [36893488147419103232, y47]) rfl ?_
        refine wq_goto rfl rfl ?_
        exact hr24 T46 p49 h
      · replace h := od_neg h h42
        refine wq_iload_n rfl rfl hv1 ?_
        refine wq_bipush rfl rfl ?_
        refine wq_ic_eq rfl rfl hv1 (by decide) (fun h50 => ?_) (fun h50 => ?_)
        · replace h := od_pos h h50
          refine wq_iconst rfl rfl ?_
          refine wq_goto rfl rfl ?_
          obtain ⟨g51, h⟩ := od_gE h
          obtain ⟨F52, e53, h⟩ := od_upE h
          refine wd_iastore (q := 5) (n := 3000) rfl rfl (by decide) g51 (by decide) (wm_zlt (by decide)) e53 ?_
          have T54 : wm_T F52 := wd_T e53 (hT.ua (k := 5) (kd := 1000) (n := 3000) (i := v1) (v := 1) rfl (by decide) g51 (show 1 < 4294967296 from (wm_zlt (by decide))))
          obtain ⟨y55, e56, h⟩ := od_letE h
          have p57 : y55 < 4294967296 := wd_lt e56 (Nat.mod_lt _ (by decide))
          refine wq_iincZ rfl rfl hv1 (Or.inr ⟨_, rfl, rfl⟩) rfl (z := y55) e56.symm (L' := [36893488147419103232, y55]) rfl ?_
          refine wq_goto rfl rfl ?_
          exact hr24 T54 p57 h
        · replace h := od_neg h h50
          refine wq_iload_n rfl rfl hv1 ?_
          refine wq_bipush rfl rfl ?_
          refine wq_ic_lt rfl rfl hv1 (by decide) (fun h58 => ?_) (fun h58 => ?_)
          · replace h := od_pos h h58
            refine wq_iconst rfl rfl ?_
            obtain ⟨g59, h⟩ := od_gE h
            obtain ⟨F60, e61, h⟩ := od_upE h
            refine wd_iastore (q := 5) (n := 3000) rfl rfl (by decide) g59 (by decide) (wm_zlt (by decide)) e61 ?_
            have T62 : wm_T F60 := wd_T e61 (hT.ua (k := 5) (kd := 1000) (n := 3000) (i := v1) (v := 0) rfl (by decide) g59 (show 0 < 4294967296 from (wm_zlt (by decide))))
            obtain ⟨y63, e64, h⟩ := od_letE h
            have p65 : y63 < 4294967296 := wd_lt e64 (Nat.mod_lt _ (by decide))
            refine wq_iincZ rfl rfl hv1 (Or.inr ⟨_, rfl, rfl⟩) rfl (z := y63) e64.symm (L' := [36893488147419103232, y63]) rfl ?_
            refine wq_goto rfl rfl ?_
            exact hr24 T62 p65 h
          · replace h := od_neg h (Nat.not_lt.mpr h58)
            refine wq_iconst rfl rfl ?_
            refine wq_goto rfl rfl ?_
            obtain ⟨g66, h⟩ := od_gE h
            obtain ⟨F67, e68, h⟩ := od_upE h
            refine wd_iastore (q := 5) (n := 3000) rfl rfl (by decide) g66 (by decide) (wm_zlt (by decide)) e68 ?_
            have T69 : wm_T F67 := wd_T e68 (hT.ua (k := 5) (kd := 1000) (n := 3000) (i := v1) (v := 1) rfl (by decide) g66 (show 1 < 4294967296 from (wm_zlt (by decide))))
            obtain ⟨y70, e71, h⟩ := od_letE h
            have p72 : y70 < 4294967296 := wd_lt e71 (Nat.mod_lt _ (by decide))
            refine wq_iincZ rfl rfl hv1 (Or.inr ⟨_, rfl, rfl⟩) rfl (z := y70) e71.symm (L' := [36893488147419103232, y70]) rfl ?_
            refine wq_goto rfl rfl ?_
            exact hr24 T69 p72 h
def dk_24_24 (n : Nat) : Nat → wq_F → Nat → Option (Nat × wq_F)
  | 0 => fun _ _ => none
  | g + 1 => dk_24_24b n (dk_24_24 n g)
theorem dk_24_24T {d n : Nat} : ∀ g : Nat, ∀ ⦃F : wq_F⦄ (hT : wm_T F) ⦃v1 : Nat⦄ (hv1 : v1 < 4294967296) ⦃x : Nat × wq_F⦄ (h : dk_24_24 n g F v1 = some x), wq (wq_cf (d + 8)) (ev_un al_mX12_compile.2.2.2.2) (some .int) 24 [36893488147419103232, v1] [] wm_sh F 0 0 (wkI wm_T wm_sh x)
  | 0 => by
    intro F hT v1 hv1 x h
    cases h
  | g + 1 => dk_24_24bT (dk_24_24T g)
/-- X12_compile -/
def dk_24 (n : Nat) (F : wq_F) : Option (Nat × wq_F) :=
  od_up F 0 0 0 fun F1 =>
  od_up F1 0 3 0 fun F4 =>
  (dk_25 n F4 (F4 0 65) (F4 0 66)).bind fun y7 =>
  dk_24_24 n n y7.2 0
theorem dkT_24 {d n : Nat} {F : wq_F} (hT : wm_T F) {x : Nat × wq_F} (h : dk_24 n F = some x) : mq (d + 8 + 1) 24 [36893488147419103232] wm_sh F (wkI wm_T wm_sh x) := by
  have e : ev_ent [36893488147419103232] = [36893488147419103232] := by
    rfl
  refine mq_of (maxL := 2) (rt := (some .int)) (code := (ev_un al_mX12_compile.2.2.2.2)) (L := [36893488147419103232, 73786976294838206464]) rfl (by rw [e]; exact Nat.le_of_ble_eq_true rfl) (by rw [e]; rfl) ?_
  unfold dk_24 at h
  refine wq_aload_n rfl rfl rfl ?_
  refine wq_iconst rfl rfl ?_
  obtain ⟨F1, e2, h⟩ := od_upE h
  refine wmE_put rfl (by decide) (wq_I (wm_zlt (by decide))) e2 ?_
  have T3 : wm_T F1 := wd_T e2 (hT.uf (f := 0) (c := 0) (v := 0) rfl (show 0 < 4294967296 from (wm_zlt (by decide))))
  refine wq_aload_n rfl rfl rfl ?_
  refine wq_iconst rfl rfl ?_
  obtain ⟨F4, e5, h⟩ := od_upE h
  refine wmE_put rfl (by decide) (wm_fitZ (by decide)) e5 ?_
  have T6 : wm_T F4 := wd_T e5 (T3.uf (f := 3) (c := 2) (v := 0) rfl (show 0 < 2 from (by decide)))
  refine wq_aload_n rfl rfl rfl ?_
  refine wq_aload_n rfl rfl rfl ?_
  refine wm_getI rfl (by decide) ?_
  refine wq_aload_n rfl rfl rfl ?_
  refine wm_getI rfl (by decide) ?_
  obtain ⟨y7, e8, h⟩ := od_bindE h
  refine wd_virtN (q := 0) (y := y7) (as := [36893488147419103232, F4 0 65, F4 0 66]) rfl rfl rfl (by decide) (Nat.le_of_ble_eq_true rfl) (Nat.le_of_ble_eq_true rfl) rfl (Nat.le_of_ble_eq_true rfl) rfl (dkT_25 T6 (T6.i 65 rfl) (T6.i 66 rfl) e8) (fun T10 => ?_)
  refine wq_iconst rfl rfl ?_
  refine wq_istore_n rfl (wm_zlt (by decide)) (Nat.le_of_ble_eq_true rfl) (Or.inr ⟨_, rfl, rfl⟩) (L' := [36893488147419103232, 0]) rfl ?_
  exact dk_24_24T n T10 (wm_zlt (by decide)) h
