/-! ===== 75a: the class: methods as functions on memories (by wip/whole2/law73.py, dc.py): 0 X8_put, 8 X8_find, 9 X8_add, 10 X8_begin, 11 X8_keepLatent, 12 X8_keepFixed, 54 X8_cutTo, 52 X8_dropText, 53 X8_dropMade, 56 X6_clear, 57 X6_addFunction, 58 X6_emit, 72 X10_open, 73 X10_begin, 82 X7_clear, 83 X7_enter, 184 X10_stop, 109 X4_refuse, 182 X8_wordOfRow, 181 X8_keepTextual, 190 X10_scanName, 193 X10_escape, 176 X8_rowLength, 192 X10_scanQuoted ===== -/
/-- X8_put -/
def dk_0 (F : wq_F) (a0 : Nat) : Option (Nat × wq_F) :=
  if ev_s (F 2 15) < ev_s 2200 then
    od_g (F 2 15 < 2200) <|
    od_up F 10 (F 2 15) ((ev_b8 (ev_b8 a0))) fun F3 =>
    od_up F3 2 15 (((F3 2 15) + 1) % 4294967296) fun F6 =>
    some (0, F6)
  else
    some (0, F)
theorem dkT_0 {d : Nat} {F : wq_F} (hT : xm_T F) {a0 : Nat} (ha0 : a0 < 4294967296) {x : Nat × wq_F} (h : dk_0 F a0 = some x) : mq (d + 0 + 1) 0 [36893488147419103234, a0] xm_sh F (wkN xm_T xm_sh x) := by
  have e : ev_ent [36893488147419103234, a0] = [36893488147419103234, a0] := by
    show 36893488147419103234 :: ev_ent [a0] = _
    rw [wm_entI ha0]
    rfl
  refine mq_of (maxL := 2) (rt := none) (code := (ev_un al_mX8_put.2.2.2.2)) (L := [36893488147419103234, a0]) rfl (by rw [e]; exact Nat.le_of_ble_eq_true rfl) (by rw [e]; rfl) ?_
  unfold dk_0 at h
  refine wq_aload_n rfl rfl rfl ?_
  refine xm_getI (q := 2) rfl rfl (by decide) (by decide) ?_
  refine wq_aload_n rfl rfl rfl ?_
  refine xm_getR (v := 36893488147419103242) (q := 2) rfl rfl (by decide) (by decide) (hT.r (k := 2) 14 9 rfl (by decide) rfl) ?_
  refine wq_alen (q := 10) rfl rfl (by decide) (by decide) (by decide) ?_
  refine wq_ic_ge rfl rfl (hT.i (k := 2) 15 rfl (by decide) rfl) (by decide) (fun h1 => ?_) (fun h1 => ?_)
  · replace h := od_neg h (Nat.not_lt.mpr h1)
    exact wq_ret rfl (wkON h hT)
  · replace h := od_pos h h1
    refine wq_aload_n rfl rfl rfl ?_
    refine xm_getR (v := 36893488147419103242) (q := 2) rfl rfl (by decide) (by decide) (hT.r (k := 2) 14 9 rfl (by decide) rfl) ?_
    refine wq_aload_n rfl rfl rfl ?_
    refine xm_getI (q := 2) rfl rfl (by decide) (by decide) ?_
    refine wq_iload_n rfl rfl ha0 ?_
    refine wq_i2b rfl ha0 ?_
    obtain ⟨g2, h⟩ := od_gE h
    obtain ⟨F3, e4, h⟩ := od_upE h
    refine wd_bastore (q := 10) (n := 2200) rfl rfl (by decide) g2 (by decide) (ev_b8_lt _) e4 ?_
    have T5 : xm_T F3 := wd_T e4 (hT.ua (k := 10) (kd := 1001) (n := 2200) (i := F 2 15) (v := (ev_b8 (ev_b8 a0))) rfl (by decide) g2 ⟨ev_b8_lt _, wm_b8b8 _⟩)
    refine wq_aload_n rfl rfl rfl ?_
    refine wq_dup rfl rfl ?_
    refine xm_getI (q := 2) rfl rfl (by decide) (by decide) ?_
    refine wq_iconst rfl rfl ?_
    refine wq_iaddZ rfl (T5.i (k := 2) 15 rfl (by decide) rfl) (wm_zlt (by decide)) (z := ((F3 2 15) + 1) % 4294967296) rfl ?_
    obtain ⟨F6, e7, h⟩ := od_upE h
    refine xmE_put (q := 2) rfl rfl (by decide) (by decide) (wq_I (Nat.mod_lt _ (by decide))) e7 ?_
    have T8 : xm_T F6 := wd_T e7 (T5.uf (k := 2) (f := 15) (c := 0) (v := ((F3 2 15) + 1) % 4294967296) rfl (by decide) rfl (show ((F3 2 15) + 1) % 4294967296 < 4294967296 from (Nat.mod_lt _ (by decide))))
    exact wq_ret rfl (wkON h T8)
def dk_8_127 (n : Nat) (r64 : wq_F → Nat → Option (Nat × wq_F)) (F : wq_F) (v2 : Nat) (v3 : Nat) : Option (Nat × wq_F) :=
  if v3 = (F 2 15) then
    some (v2, F)
  else
    od_g (v2 < 3000) <|
    od_let (((F 6 v2) + (4294967296 - 1)) % 4294967296) fun y3 =>
    r64 F y3
theorem dk_8_127T {d n : Nat} {r64 : wq_F → Nat → Option (Nat × wq_F)} (hr64 : ∀ ⦃u1 : Nat⦄ ⦃u3 : Nat⦄ ⦃F : wq_F⦄ (hT : xm_T F) ⦃v2 : Nat⦄ (hv2 : v2 < 4294967296) (hu1 : ev_isL u1 = false) (hu3 : ev_isL u3 = false) ⦃x : Nat × wq_F⦄ (h : r64 F v2 = some x), wq (wq_cf (d + 0)) (ev_un al_mX8_find.2.2.2.2) (some .int) 64 [36893488147419103234, u1, v2, u3] [] xm_sh F 0 0 (wkI xm_T xm_sh x)) : ∀ ⦃u1 : Nat⦄ ⦃F : wq_F⦄ (hT : xm_T F) ⦃v2 : Nat⦄ (hv2 : v2 < 4294967296) ⦃v3 : Nat⦄ (hv3 : v3 < 4294967296) (hu1 : ev_isL u1 = false) ⦃x : Nat × wq_F⦄ (h : dk_8_127 n r64 F v2 v3 = some x), wq (wq_cf (d + 0)) (ev_un al_mX8_find.2.2.2.2) (some .int) 127 [36893488147419103234, u1, v2, v3] [] xm_sh F 0 0 (wkI xm_T xm_sh x) := by
  intro u1 F hT v2 hv2 v3 hv3 hu1 x h
  unfold dk_8_127 at h
  refine wq_iload_n rfl rfl hv3 ?_
  refine wq_aload_n rfl rfl rfl ?_
  refine xm_getI (q := 2) rfl rfl (by decide) (by decide) ?_
  refine wq_ic_ne rfl rfl hv3 (hT.i (k := 2) 15 rfl (by decide) rfl) (fun h1 => ?_) (fun h1 => ?_)
  · replace h := od_neg h h1
    refine wq_aload_n rfl rfl rfl ?_
    refine xm_getR (v := 36893488147419103238) (q := 2) rfl rfl (by decide) (by decide) (hT.r (k := 2) 3 5 rfl (by decide) rfl) ?_
    refine wq_iload_n rfl rfl hv2 ?_
    obtain ⟨g2, h⟩ := od_gE h
    refine wq_iaload (q := 6) (n := 3000) rfl rfl (by decide) g2 (by decide) ?_
    refine wq_iconst rfl rfl ?_
    refine wq_isubZ rfl (hT.ai (k := 6) rfl g2) (wm_zlt (by decide)) (z := ((F 6 v2) + (4294967296 - 1)) % 4294967296) rfl ?_
    obtain ⟨y3, e4, h⟩ := od_letE h
    refine wq_top e4.symm ?_
    have p5 : y3 < 4294967296 := wd_lt e4 (Nat.mod_lt _ (by decide))
    refine wq_istore_n rfl p5 (Nat.le_of_ble_eq_true rfl) (Or.inr ⟨_, rfl, hu1⟩) (L' := [36893488147419103234, u1, y3, v3]) rfl ?_
    refine wq_goto rfl rfl ?_
    exact hr64 hT p5 hu1 (wq_notL hv3) h
  · replace h := od_pos h h1
    refine wq_iload_n rfl rfl hv2 ?_
    exact wq_iret rfl hv2 rfl (wkOI h hT hv2)
def dk_8_87b (n : Nat) (r64 : wq_F → Nat → Option (Nat × wq_F)) (r87 : wq_F → Nat → Nat → Option (Nat × wq_F)) (F : wq_F) (v2 : Nat) (v3 : Nat) : Option (Nat × wq_F) :=
  if 2147483648 ≤ v3 then
    dk_8_127 n r64 F v2 v3
  else
    if ev_s v3 < ev_s (F 2 15) then
      od_g (v2 < 3000) <|
      od_g (((F 4 v2) + v3) % 4294967296 < 32768) <|
      od_let (F 3 (((F 4 v2) + v3) % 4294967296)) fun y5 =>
      od_g (v3 < 2200) <|
      if y5 = (F 10 v3) then
        od_let ((v3 + 1) % 4294967296) fun y10 =>
        r87 F v2 y10
      else
        dk_8_127 n r64 F v2 v3
    else
      dk_8_127 n r64 F v2 v3
theorem dk_8_87bT {d n : Nat} {r64 : wq_F → Nat → Option (Nat × wq_F)} {r87 : wq_F → Nat → Nat → Option (Nat × wq_F)} (hr64 : ∀ ⦃u1 : Nat⦄ ⦃u3 : Nat⦄ ⦃F : wq_F⦄ (hT : xm_T F) ⦃v2 : Nat⦄ (hv2 : v2 < 4294967296) (hu1 : ev_isL u1 = false) (hu3 : ev_isL u3 = false) ⦃x : Nat × wq_F⦄ (h : r64 F v2 = some x), wq (wq_cf (d + 0)) (ev_un al_mX8_find.2.2.2.2) (some .int) 64 [36893488147419103234, u1, v2, u3] [] xm_sh F 0 0 (wkI xm_T xm_sh x)) (hr87 : ∀ ⦃u1 : Nat⦄ ⦃F : wq_F⦄ (hT : xm_T F) ⦃v2 : Nat⦄ (hv2 : v2 < 4294967296) ⦃v3 : Nat⦄ (hv3 : v3 < 4294967296) (hu1 : ev_isL u1 = false) ⦃x : Nat × wq_F⦄ (h : r87 F v2 v3 = some x), wq (wq_cf (d + 0)) (ev_un al_mX8_find.2.2.2.2) (some .int) 87 [36893488147419103234, u1, v2, v3] [] xm_sh F 0 0 (wkI xm_T xm_sh x)) : ∀ ⦃u1 : Nat⦄ ⦃F : wq_F⦄ (hT : xm_T F) ⦃v2 : Nat⦄ (hv2 : v2 < 4294967296) ⦃v3 : Nat⦄ (hv3 : v3 < 4294967296) (hu1 : ev_isL u1 = false) ⦃x : Nat × wq_F⦄ (h : dk_8_87b n r64 r87 F v2 v3 = some x), wq (wq_cf (d + 0)) (ev_un al_mX8_find.2.2.2.2) (some .int) 87 [36893488147419103234, u1, v2, v3] [] xm_sh F 0 0 (wkI xm_T xm_sh x) := by
  intro u1 F hT v2 hv2 v3 hv3 hu1 x h
  unfold dk_8_87b at h
  refine wq_iload_n rfl rfl hv3 ?_
  refine wq_if_lt rfl rfl hv3 (fun h1 => ?_) (fun h1 => ?_)
  · replace h := od_pos h h1
    exact dk_8_127T hr64 hT hv2 hv3 hu1 h
  · replace h := od_neg h (Nat.not_le.mpr h1)
    refine wq_iload_n rfl rfl hv3 ?_
    refine wq_aload_n rfl rfl rfl ?_
    refine xm_getI (q := 2) rfl rfl (by decide) (by decide) ?_
    refine wq_ic_ge rfl rfl hv3 (hT.i (k := 2) 15 rfl (by decide) rfl) (fun h2 => ?_) (fun h2 => ?_)
    · replace h := od_neg h (Nat.not_lt.mpr h2)
      exact dk_8_127T hr64 hT hv2 hv3 hu1 h
    · replace h := od_pos h h2
      refine wq_aload_n rfl rfl rfl ?_
      refine xm_getR (v := 36893488147419103235) (q := 2) rfl rfl (by decide) (by decide) (hT.r (k := 2) 0 2 rfl (by decide) rfl) ?_
      refine wq_aload_n rfl rfl rfl ?_
      refine xm_getR (v := 36893488147419103236) (q := 2) rfl rfl (by decide) (by decide) (hT.r (k := 2) 1 3 rfl (by decide) rfl) ?_
      refine wq_iload_n rfl rfl hv2 ?_
      obtain ⟨g3, h⟩ := od_gE h
      refine wq_iaload (q := 4) (n := 3000) rfl rfl (by decide) g3 (by decide) ?_
      refine wq_iload_n rfl rfl hv3 ?_
      refine wq_iaddZ rfl (hT.ai (k := 4) rfl g3) hv3 (z := ((F 4 v2) + v3) % 4294967296) rfl ?_
      obtain ⟨g4, h⟩ := od_gE h
      refine wq_baload (q := 3) (n := 32768) rfl rfl (by decide) g4 (by decide) ?_
      obtain ⟨y5, e6, h⟩ := od_letE h
      refine wq_top e6.symm ?_
      have p7 : y5 < 4294967296 := wd_lt e6 (hT.ab (k := 3) rfl g4)
      refine wq_aload_n rfl rfl rfl ?_
      refine xm_getR (v := 36893488147419103242) (q := 2) rfl rfl (by decide) (by decide) (hT.r (k := 2) 14 9 rfl (by decide) rfl) ?_
      refine wq_iload_n rfl rfl hv3 ?_
      obtain ⟨g8, h⟩ := od_gE h
      refine wq_baload (q := 10) (n := 2200) rfl rfl (by decide) g8 (by decide) ?_
      refine wq_ic_ne rfl rfl p7 (hT.ab (k := 10) rfl g8) (fun h9 => ?_) (fun h9 => ?_)
      · replace h := od_neg h h9
        exact dk_8_127T hr64 hT hv2 hv3 hu1 h
      · replace h := od_pos h h9
        obtain ⟨y10, e11, h⟩ := od_letE h
        have p12 : y10 < 4294967296 := wd_lt e11 (Nat.mod_lt _ (by decide))
        refine wq_iincZ rfl rfl hv3 (Or.inr ⟨_, rfl, (wq_notL hv2)⟩) rfl (z := y10) e11.symm (L' := [36893488147419103234, u1, v2, y10]) rfl ?_
        refine wq_goto rfl rfl ?_
        exact hr87 hT hv2 p12 hu1 h
def dk_8_87 (n : Nat) (r64 : wq_F → Nat → Option (Nat × wq_F)) : Nat → wq_F → Nat → Nat → Option (Nat × wq_F)
  | 0 => fun _ _ _ => none
  | g + 1 => dk_8_87b n r64 (dk_8_87 n r64 g)
theorem dk_8_87T {d n : Nat} {r64 : wq_F → Nat → Option (Nat × wq_F)} (hr64 : ∀ ⦃u1 : Nat⦄ ⦃u3 : Nat⦄ ⦃F : wq_F⦄ (hT : xm_T F) ⦃v2 : Nat⦄ (hv2 : v2 < 4294967296) (hu1 : ev_isL u1 = false) (hu3 : ev_isL u3 = false) ⦃x : Nat × wq_F⦄ (h : r64 F v2 = some x), wq (wq_cf (d + 0)) (ev_un al_mX8_find.2.2.2.2) (some .int) 64 [36893488147419103234, u1, v2, u3] [] xm_sh F 0 0 (wkI xm_T xm_sh x)) : ∀ g : Nat, ∀ ⦃u1 : Nat⦄ ⦃F : wq_F⦄ (hT : xm_T F) ⦃v2 : Nat⦄ (hv2 : v2 < 4294967296) ⦃v3 : Nat⦄ (hv3 : v3 < 4294967296) (hu1 : ev_isL u1 = false) ⦃x : Nat × wq_F⦄ (h : dk_8_87 n r64 g F v2 v3 = some x), wq (wq_cf (d + 0)) (ev_un al_mX8_find.2.2.2.2) (some .int) 87 [36893488147419103234, u1, v2, v3] [] xm_sh F 0 0 (wkI xm_T xm_sh x)
  | 0 => by
    intro u1 F hT v2 hv2 v3 hv3 hu1 x h
    cases h
  | g + 1 => dk_8_87bT hr64 (dk_8_87T hr64 g)
def dk_8_64b (n : Nat) (r64 : wq_F → Nat → Option (Nat × wq_F)) (F : wq_F) (v2 : Nat) : Option (Nat × wq_F) :=
  if 2147483648 ≤ v2 then
    some (4294967295, F)
  else
    od_g (v2 < 3000) <|
    if (F 5 v2) = (F 2 15) then
      dk_8_87 n r64 n F v2 0
    else
      dk_8_87 n r64 n F v2 4294967295
theorem dk_8_64bT {d n : Nat} {r64 : wq_F → Nat → Option (Nat × wq_F)} (hr64 : ∀ ⦃u1 : Nat⦄ ⦃u3 : Nat⦄ ⦃F : wq_F⦄ (hT : xm_T F) ⦃v2 : Nat⦄ (hv2 : v2 < 4294967296) (hu1 : ev_isL u1 = false) (hu3 : ev_isL u3 = false) ⦃x : Nat × wq_F⦄ (h : r64 F v2 = some x), wq (wq_cf (d + 0)) (ev_un al_mX8_find.2.2.2.2) (some .int) 64 [36893488147419103234, u1, v2, u3] [] xm_sh F 0 0 (wkI xm_T xm_sh x)) : ∀ ⦃u1 : Nat⦄ ⦃u3 : Nat⦄ ⦃F : wq_F⦄ (hT : xm_T F) ⦃v2 : Nat⦄ (hv2 : v2 < 4294967296) (hu1 : ev_isL u1 = false) (hu3 : ev_isL u3 = false) ⦃x : Nat × wq_F⦄ (h : dk_8_64b n r64 F v2 = some x), wq (wq_cf (d + 0)) (ev_un al_mX8_find.2.2.2.2) (some .int) 64 [36893488147419103234, u1, v2, u3] [] xm_sh F 0 0 (wkI xm_T xm_sh x) := by
  intro u1 u3 F hT v2 hv2 hu1 hu3 x h
  unfold dk_8_64b at h
  refine wq_iload_n rfl rfl hv2 ?_
  refine wq_if_lt rfl rfl hv2 (fun h1 => ?_) (fun h1 => ?_)
  · replace h := od_pos h h1
    refine wq_iconst rfl rfl ?_
    exact wq_iret rfl (by decide) rfl (wkOI h hT (by decide))
  · replace h := od_neg h (Nat.not_le.mpr h1)
    refine wq_aload_n rfl rfl rfl ?_
    refine xm_getR (v := 36893488147419103237) (q := 2) rfl rfl (by decide) (by decide) (hT.r (k := 2) 2 4 rfl (by decide) rfl) ?_
    refine wq_iload_n rfl rfl hv2 ?_
    obtain ⟨g2, h⟩ := od_gE h
    refine wq_iaload (q := 5) (n := 3000) rfl rfl (by decide) g2 (by decide) ?_
    refine wq_aload_n rfl rfl rfl ?_
    refine xm_getI (q := 2) rfl rfl (by decide) (by decide) ?_
    refine wq_ic_ne rfl rfl (hT.ai (k := 5) rfl g2) (hT.i (k := 2) 15 rfl (by decide) rfl) (fun h3 => ?_) (fun h3 => ?_)
    · replace h := od_neg h h3
      refine wq_iconst rfl rfl ?_
      refine wq_istore_n rfl (by decide) (Nat.le_of_ble_eq_true rfl) (Or.inr ⟨_, rfl, (wq_notL hv2)⟩) (L' := [36893488147419103234, u1, v2, 4294967295]) rfl ?_
      exact dk_8_87T hr64 n hT hv2 (by decide) hu1 h
    · replace h := od_pos h h3
      refine wq_iconst rfl rfl ?_
      refine wq_goto rfl rfl ?_
      refine wq_istore_n rfl (wm_zlt (by decide)) (Nat.le_of_ble_eq_true rfl) (Or.inr ⟨_, rfl, (wq_notL hv2)⟩) (L' := [36893488147419103234, u1, v2, 0]) rfl ?_
      exact dk_8_87T hr64 n hT hv2 (wm_zlt (by decide)) hu1 h
def dk_8_64 (n : Nat) : Nat → wq_F → Nat → Option (Nat × wq_F)
  | 0 => fun _ _ => none
  | g + 1 => dk_8_64b n (dk_8_64 n g)
theorem dk_8_64T {d n : Nat} : ∀ g : Nat, ∀ ⦃u1 : Nat⦄ ⦃u3 : Nat⦄ ⦃F : wq_F⦄ (hT : xm_T F) ⦃v2 : Nat⦄ (hv2 : v2 < 4294967296) (hu1 : ev_isL u1 = false) (hu3 : ev_isL u3 = false) ⦃x : Nat × wq_F⦄ (h : dk_8_64 n g F v2 = some x), wq (wq_cf (d + 0)) (ev_un al_mX8_find.2.2.2.2) (some .int) 64 [36893488147419103234, u1, v2, u3] [] xm_sh F 0 0 (wkI xm_T xm_sh x)
  | 0 => by
    intro u1 u3 F hT v2 hv2 hu1 hu3 x h
    cases h
  | g + 1 => dk_8_64bT (dk_8_64T g)
def dk_8_7b (n : Nat) (r7 : wq_F → Nat → Nat → Option (Nat × wq_F)) (F : wq_F) (v1 : Nat) (v2 : Nat) : Option (Nat × wq_F) :=
  if ev_s v2 < ev_s (F 2 15) then
    od_g (v2 < 2200) <|
    od_let (((ev_oMul v1 31) + (F 10 v2)) % 4294967296) fun y13 =>
    od_let ((v2 + 1) % 4294967296) fun y16 =>
    r7 F y13 y16
  else
    od_let (ev_oXor (ev_oXor v1 (ev_oUsh v1 10)) (ev_oUsh v1 20)) fun y2 =>
    od_up F 2 6 (ev_oAnd y2 1023) fun F5 =>
    od_g (F5 2 6 < 1024) <|
    od_let (((F5 7 (F5 2 6)) + (4294967296 - 1)) % 4294967296) fun y9 =>
    dk_8_64 n n F5 y9
theorem dk_8_7bT {d n : Nat} {r7 : wq_F → Nat → Nat → Option (Nat × wq_F)} (hr7 : ∀ ⦃F : wq_F⦄ (hT : xm_T F) ⦃v1 : Nat⦄ (hv1 : v1 < 4294967296) ⦃v2 : Nat⦄ (hv2 : v2 < 4294967296) ⦃x : Nat × wq_F⦄ (h : r7 F v1 v2 = some x), wq (wq_cf (d + 0)) (ev_un al_mX8_find.2.2.2.2) (some .int) 7 [36893488147419103234, v1, v2, 73786976294838206464] [] xm_sh F 0 0 (wkI xm_T xm_sh x)) : ∀ ⦃F : wq_F⦄ (hT : xm_T F) ⦃v1 : Nat⦄ (hv1 : v1 < 4294967296) ⦃v2 : Nat⦄ (hv2 : v2 < 4294967296) ⦃x : Nat × wq_F⦄ (h : dk_8_7b n r7 F v1 v2 = some x), wq (wq_cf (d + 0)) (ev_un al_mX8_find.2.2.2.2) (some .int) 7 [36893488147419103234, v1, v2, 73786976294838206464] [] xm_sh F 0 0 (wkI xm_T xm_sh x) := by
  intro F hT v1 hv1 v2 hv2 x h
  unfold dk_8_7b at h
  refine wq_iload_n rfl rfl hv2 ?_
  refine wq_aload_n rfl rfl rfl ?_
  refine xm_getI (q := 2) rfl rfl (by decide) (by decide) ?_
  refine wq_ic_ge rfl rfl hv2 (hT.i (k := 2) 15 rfl (by decide) rfl) (fun h1 => ?_) (fun h1 => ?_)
  · replace h := od_neg h (Nat.not_lt.mpr h1)
    refine wq_aload_n rfl rfl rfl ?_
    refine wq_iload_n rfl rfl hv1 ?_
    refine wq_iload_n rfl rfl hv1 ?_
    refine wq_bipush rfl rfl ?_
    refine wq_iushr rfl hv1 (by decide) ?_
    refine wq_ixor rfl hv1 (wq_I_iushr hv1 (by decide)) ?_
    refine wq_iload_n rfl rfl hv1 ?_
    refine wq_bipush rfl rfl ?_
    refine wq_iushr rfl hv1 (by decide) ?_
    refine wq_ixor rfl (wq_I_ixor hv1 (wq_I_iushr hv1 (by decide))) (wq_I_iushr hv1 (by decide)) ?_
    obtain ⟨y2, e3, h⟩ := od_letE h
    refine wq_top e3.symm ?_
    have p4 : y2 < 4294967296 := wd_lt e3 (wq_I_ixor (wq_I_ixor hv1 (wq_I_iushr hv1 (by decide))) (wq_I_iushr hv1 (by decide)))
    refine wq_sipush rfl rfl ?_
    refine wq_iand rfl p4 (by decide) ?_
    obtain ⟨F5, e6, h⟩ := od_upE h
    refine xmE_put (q := 2) rfl rfl (by decide) (by decide) (wq_I (wq_I_iand p4 (by decide))) e6 ?_
    have T7 : xm_T F5 := wd_T e6 (hT.uf (k := 2) (f := 6) (c := 0) (v := ev_oAnd y2 1023) rfl (by decide) rfl (show ev_oAnd y2 1023 < 4294967296 from (wq_I_iand p4 (by decide))))
    refine wq_aload_n rfl rfl rfl ?_
    refine xm_getR (v := 36893488147419103239) (q := 2) rfl rfl (by decide) (by decide) (T7.r (k := 2) 4 6 rfl (by decide) rfl) ?_
    refine wq_aload_n rfl rfl rfl ?_
    refine xm_getI (q := 2) rfl rfl (by decide) (by decide) ?_
    obtain ⟨g8, h⟩ := od_gE h
    refine wq_iaload (q := 7) (n := 1024) rfl rfl (by decide) g8 (by decide) ?_
    refine wq_iconst rfl rfl ?_
    refine wq_isubZ rfl (T7.ai (k := 7) rfl g8) (wm_zlt (by decide)) (z := ((F5 7 (F5 2 6)) + (4294967296 - 1)) % 4294967296) rfl ?_
    obtain ⟨y9, e10, h⟩ := od_letE h
    refine wq_top e10.symm ?_
    have p11 : y9 < 4294967296 := wd_lt e10 (Nat.mod_lt _ (by decide))
    refine wq_istore_n rfl p11 (Nat.le_of_ble_eq_true rfl) (Or.inr ⟨_, rfl, (wq_notL hv1)⟩) (L' := [36893488147419103234, v1, y9, 73786976294838206464]) rfl ?_
    exact dk_8_64T n T7 p11 (wq_notL hv1) rfl h
  · replace h := od_pos h h1
    refine wq_iload_n rfl rfl hv1 ?_
    refine wq_bipush rfl rfl ?_
    refine wq_imul rfl hv1 (by decide) ?_
    refine wq_aload_n rfl rfl rfl ?_
    refine xm_getR (v := 36893488147419103242) (q := 2) rfl rfl (by decide) (by decide) (hT.r (k := 2) 14 9 rfl (by decide) rfl) ?_
    refine wq_iload_n rfl rfl hv2 ?_
    obtain ⟨g12, h⟩ := od_gE h
    refine wq_baload (q := 10) (n := 2200) rfl rfl (by decide) g12 (by decide) ?_
    refine wq_iaddZ rfl (Nat.mod_lt _ (by decide)) (hT.ab (k := 10) rfl g12) (z := ((ev_oMul v1 31) + (F 10 v2)) % 4294967296) rfl ?_
    obtain ⟨y13, e14, h⟩ := od_letE h
    refine wq_top e14.symm ?_
    have p15 : y13 < 4294967296 := wd_lt e14 (Nat.mod_lt _ (by decide))
    refine wq_istore_n rfl p15 (Nat.le_of_ble_eq_true rfl) (Or.inr ⟨_, rfl, rfl⟩) (L' := [36893488147419103234, y13, v2, 73786976294838206464]) rfl ?_
    obtain ⟨y16, e17, h⟩ := od_letE h
    have p18 : y16 < 4294967296 := wd_lt e17 (Nat.mod_lt _ (by decide))
    refine wq_iincZ rfl rfl hv2 (Or.inr ⟨_, rfl, (wq_notL p15)⟩) rfl (z := y16) e17.symm (L' := [36893488147419103234, y13, y16, 73786976294838206464]) rfl ?_
    refine wq_goto rfl rfl ?_
    exact hr7 hT p15 p18 h
def dk_8_7 (n : Nat) : Nat → wq_F → Nat → Nat → Option (Nat × wq_F)
  | 0 => fun _ _ _ => none
  | g + 1 => dk_8_7b n (dk_8_7 n g)
theorem dk_8_7T {d n : Nat} : ∀ g : Nat, ∀ ⦃F : wq_F⦄ (hT : xm_T F) ⦃v1 : Nat⦄ (hv1 : v1 < 4294967296) ⦃v2 : Nat⦄ (hv2 : v2 < 4294967296) ⦃x : Nat × wq_F⦄ (h : dk_8_7 n g F v1 v2 = some x), wq (wq_cf (d + 0)) (ev_un al_mX8_find.2.2.2.2) (some .int) 7 [36893488147419103234, v1, v2, 73786976294838206464] [] xm_sh F 0 0 (wkI xm_T xm_sh x)
  | 0 => by
    intro F hT v1 hv1 v2 hv2 x h
    cases h
  | g + 1 => dk_8_7bT (dk_8_7T g)
/-- X8_find -/
def dk_8 (n : Nat) (F : wq_F) : Option (Nat × wq_F) :=
  dk_8_7 n n F (F 2 15) 0
theorem dkT_8 {d n : Nat} {F : wq_F} (hT : xm_T F) {x : Nat × wq_F} (h : dk_8 n F = some x) : mq (d + 0 + 1) 8 [36893488147419103234] xm_sh F (wkI xm_T xm_sh x) := by
  have e : ev_ent [36893488147419103234] = [36893488147419103234] := by
    rfl
  refine mq_of (maxL := 4) (rt := (some .int)) (code := (ev_un al_mX8_find.2.2.2.2)) (L := [36893488147419103234, 73786976294838206464, 73786976294838206464, 73786976294838206464]) rfl (by rw [e]; exact Nat.le_of_ble_eq_true rfl) (by rw [e]; rfl) ?_
  unfold dk_8 at h
  refine wq_aload_n rfl rfl rfl ?_
  refine xm_getI (q := 2) rfl rfl (by decide) (by decide) ?_
  refine wq_istore_n rfl (hT.i (k := 2) 15 rfl (by decide) rfl) (Nat.le_of_ble_eq_true rfl) (Or.inr ⟨_, rfl, rfl⟩) (L' := [36893488147419103234, F 2 15, 73786976294838206464, 73786976294838206464]) rfl ?_
  refine wq_iconst rfl rfl ?_
  refine wq_istore_n rfl (wm_zlt (by decide)) (Nat.le_of_ble_eq_true rfl) (Or.inr ⟨_, rfl, (wq_notL (hT.i (k := 2) 15 rfl (by decide) rfl))⟩) (L' := [36893488147419103234, F 2 15, 0, 73786976294838206464]) rfl ?_
  exact dk_8_7T n hT (hT.i (k := 2) 15 rfl (by decide) rfl) (wm_zlt (by decide)) h
/-- X8_add -/
def dk_9 (F : wq_F) : Option (Nat × wq_F) :=
  if ev_s (F 2 8) < ev_s 3000 then
    od_let (((F 2 9) + (F 2 15)) % 4294967296) fun y2 =>
    if ev_s 32768 < ev_s y2 then
      some (0, F)
    else
      od_g (0 + F 2 15 ≤ 2200 ∧ F 2 9 + F 2 15 ≤ 32768) <|
      od_cp F 10 0 3 (F 2 9) (F 2 15) fun F7 =>
      od_g (F 2 8 < 3000) <|
      od_up F7 4 (F 2 8) (F7 2 9) fun F11 =>
      od_g (F 2 8 < 3000) <|
      od_up F11 5 (F 2 8) (F11 2 15) fun F15 =>
      od_g (F 2 8 < 3000) <|
      od_up F15 8 (F 2 8) (F15 2 6) fun F19 =>
      od_g (F19 2 6 < 1024) <|
      od_g (F 2 8 < 3000) <|
      od_up F19 6 (F 2 8) (F19 7 (F19 2 6)) fun F24 =>
      od_g (F24 2 6 < 1024) <|
      od_up F24 7 (F24 2 6) (((F 2 8) + 1) % 4294967296) fun F28 =>
      od_let (((F28 2 9) + (F28 2 15)) % 4294967296) fun y31 =>
      od_up F28 2 9 y31 fun F34 =>
      od_up F34 2 8 (((F34 2 8) + 1) % 4294967296) fun F37 =>
      some (F 2 8, F37)
  else
    some (0, F)
theorem dkT_9 {d : Nat} {F : wq_F} (hT : xm_T F) {x : Nat × wq_F} (h : dk_9 F = some x) : mq (d + 0 + 1) 9 [36893488147419103234] xm_sh F (wkI xm_T xm_sh x) := by
  have e : ev_ent [36893488147419103234] = [36893488147419103234] := by
    rfl
  refine mq_of (maxL := 2) (rt := (some .int)) (code := (ev_un al_mX8_add.2.2.2.2)) (L := [36893488147419103234, 73786976294838206464]) rfl (by rw [e]; exact Nat.le_of_ble_eq_true rfl) (by rw [e]; rfl) ?_
  unfold dk_9 at h
  refine wq_aload_n rfl rfl rfl ?_
  refine xm_getI (q := 2) rfl rfl (by decide) (by decide) ?_
  refine wq_sipush rfl rfl ?_
  refine wq_ic_ge rfl rfl (hT.i (k := 2) 8 rfl (by decide) rfl) (by decide) (fun h1 => ?_) (fun h1 => ?_)
  · replace h := od_neg h (Nat.not_lt.mpr h1)
    refine wq_iconst rfl rfl ?_
    exact wq_iret rfl (wm_zlt (by decide)) rfl (wkOI h hT (wm_zlt (by decide)))
  · replace h := od_pos h h1
    refine wq_aload_n rfl rfl rfl ?_
    refine xm_getI (q := 2) rfl rfl (by decide) (by decide) ?_
    refine wq_aload_n rfl rfl rfl ?_
    refine xm_getI (q := 2) rfl rfl (by decide) (by decide) ?_
    refine wq_iaddZ rfl (hT.i (k := 2) 9 rfl (by decide) rfl) (hT.i (k := 2) 15 rfl (by decide) rfl) (z := ((F 2 9) + (F 2 15)) % 4294967296) rfl ?_
    obtain ⟨y2, e3, h⟩ := od_letE h
    refine wq_top e3.symm ?_
    have p4 : y2 < 4294967296 := wd_lt e3 (Nat.mod_lt _ (by decide))
    refine wq_aload_n rfl rfl rfl ?_
    refine xm_getR (v := 36893488147419103235) (q := 2) rfl rfl (by decide) (by decide) (hT.r (k := 2) 0 2 rfl (by decide) rfl) ?_
    refine wq_alen (q := 3) rfl rfl (by decide) (by decide) (by decide) ?_
    refine wq_ic_le rfl rfl p4 (by decide) (fun h5 => ?_) (fun h5 => ?_)
    · replace h := od_neg h (Nat.not_lt.mpr h5)
      refine wq_aload_n rfl rfl rfl ?_
      refine xm_getI (q := 2) rfl rfl (by decide) (by decide) ?_
      refine wq_istore_n rfl (hT.i (k := 2) 8 rfl (by decide) rfl) (Nat.le_of_ble_eq_true rfl) (Or.inr ⟨_, rfl, rfl⟩) (L' := [36893488147419103234, F 2 8]) rfl ?_
      refine wq_aload_n rfl rfl rfl ?_
      refine xm_getR (v := 36893488147419103242) (q := 2) rfl rfl (by decide) (by decide) (hT.r (k := 2) 14 9 rfl (by decide) rfl) ?_
      refine wq_iconst rfl rfl ?_
      refine wq_aload_n rfl rfl rfl ?_
      refine xm_getR (v := 36893488147419103235) (q := 2) rfl rfl (by decide) (by decide) (hT.r (k := 2) 0 2 rfl (by decide) rfl) ?_
      refine wq_aload_n rfl rfl rfl ?_
      refine xm_getI (q := 2) rfl rfl (by decide) (by decide) ?_
      refine wq_aload_n rfl rfl rfl ?_
      refine xm_getI (q := 2) rfl rfl (by decide) (by decide) ?_
      obtain ⟨g6, h⟩ := od_gE h
      obtain ⟨F7, e8, h⟩ := od_cpE h
      refine wd_cpy (q := 10) (q2 := 3) (n1 := 2200) (n2 := 32768) rfl rfl rfl (by decide) (by decide) g6.1 g6.2 (by decide) (by decide) (Nat.le_of_ble_eq_true rfl) (fun i hi => hT.ab8 (k := 10) rfl (by omega)) e8 ?_
      have T9 : xm_T F7 := wd_T e8 (hT.cp (k := 10) (k2 := 3) (n := 2200) (n2 := 32768) rfl rfl g6.1)
      refine wq_aload_n rfl rfl rfl ?_
      refine xm_getR (v := 36893488147419103236) (q := 2) rfl rfl (by decide) (by decide) (T9.r (k := 2) 1 3 rfl (by decide) rfl) ?_
      refine wq_iload_n rfl rfl (hT.i (k := 2) 8 rfl (by decide) rfl) ?_
      refine wq_aload_n rfl rfl rfl ?_
      refine xm_getI (q := 2) rfl rfl (by decide) (by decide) ?_
      obtain ⟨g10, h⟩ := od_gE h
      obtain ⟨F11, e12, h⟩ := od_upE h
      refine wd_iastore (q := 4) (n := 3000) rfl rfl (by decide) g10 (by decide) (T9.i (k := 2) 9 rfl (by decide) rfl) e12 ?_
      have T13 : xm_T F11 := wd_T e12 (T9.ua (k := 4) (kd := 1000) (n := 3000) (i := F 2 8) (v := F7 2 9) rfl (by decide) g10 (show F7 2 9 < 4294967296 from (T9.i (k := 2) 9 rfl (by decide) rfl)))
      refine wq_aload_n rfl rfl rfl ?_
      refine xm_getR (v := 36893488147419103237) (q := 2) rfl rfl (by decide) (by decide) (T13.r (k := 2) 2 4 rfl (by decide) rfl) ?_
      refine wq_iload_n rfl rfl (hT.i (k := 2) 8 rfl (by decide) rfl) ?_
      refine wq_aload_n rfl rfl rfl ?_
      refine xm_getI (q := 2) rfl rfl (by decide) (by decide) ?_
      obtain ⟨g14, h⟩ := od_gE h
      obtain ⟨F15, e16, h⟩ := od_upE h
      refine wd_iastore (q := 5) (n := 3000) rfl rfl (by decide) g14 (by decide) (T13.i (k := 2) 15 rfl (by decide) rfl) e16 ?_
      have T17 : xm_T F15 := wd_T e16 (T13.ua (k := 5) (kd := 1000) (n := 3000) (i := F 2 8) (v := F11 2 15) rfl (by decide) g14 (show F11 2 15 < 4294967296 from (T13.i (k := 2) 15 rfl (by decide) rfl)))
      refine wq_aload_n rfl rfl rfl ?_
      refine xm_getR (v := 36893488147419103240) (q := 2) rfl rfl (by decide) (by decide) (T17.r (k := 2) 5 7 rfl (by decide) rfl) ?_
      refine wq_iload_n rfl rfl (hT.i (k := 2) 8 rfl (by decide) rfl) ?_
      refine wq_aload_n rfl rfl rfl ?_
      refine xm_getI (q := 2) rfl rfl (by decide) (by decide) ?_
      obtain ⟨g18, h⟩ := od_gE h
      obtain ⟨F19, e20, h⟩ := od_upE h
      refine wd_iastore (q := 8) (n := 3000) rfl rfl (by decide) g18 (by decide) (T17.i (k := 2) 6 rfl (by decide) rfl) e20 ?_
      have T21 : xm_T F19 := wd_T e20 (T17.ua (k := 8) (kd := 1000) (n := 3000) (i := F 2 8) (v := F15 2 6) rfl (by decide) g18 (show F15 2 6 < 4294967296 from (T17.i (k := 2) 6 rfl (by decide) rfl)))
      refine wq_aload_n rfl rfl rfl ?_
      refine xm_getR (v := 36893488147419103238) (q := 2) rfl rfl (by decide) (by decide) (T21.r (k := 2) 3 5 rfl (by decide) rfl) ?_
      refine wq_iload_n rfl rfl (hT.i (k := 2) 8 rfl (by decide) rfl) ?_
      refine wq_aload_n rfl rfl rfl ?_
      refine xm_getR (v := 36893488147419103239) (q := 2) rfl rfl (by decide) (by decide) (T21.r (k := 2) 4 6 rfl (by decide) rfl) ?_
      refine wq_aload_n rfl rfl rfl ?_
      refine xm_getI (q := 2) rfl rfl (by decide) (by decide) ?_
      obtain ⟨g22, h⟩ := od_gE h
      refine wq_iaload (q := 7) (n := 1024) rfl rfl (by decide) g22 (by decide) ?_
      obtain ⟨g23, h⟩ := od_gE h
      obtain ⟨F24, e25, h⟩ := od_upE h
      refine wd_iastore (q := 6) (n := 3000) rfl rfl (by decide) g23 (by decide) (T21.ai (k := 7) rfl g22) e25 ?_
      have T26 : xm_T F24 := wd_T e25 (T21.ua (k := 6) (kd := 1000) (n := 3000) (i := F 2 8) (v := F19 7 (F19 2 6)) rfl (by decide) g23 (show F19 7 (F19 2 6) < 4294967296 from (T21.ai (k := 7) rfl g22)))
      refine wq_aload_n rfl rfl rfl ?_
      refine xm_getR (v := 36893488147419103239) (q := 2) rfl rfl (by decide) (by decide) (T26.r (k := 2) 4 6 rfl (by decide) rfl) ?_
      refine wq_aload_n rfl rfl rfl ?_
      refine xm_getI (q := 2) rfl rfl (by decide) (by decide) ?_
      refine wq_iload_n rfl rfl (hT.i (k := 2) 8 rfl (by decide) rfl) ?_
      refine wq_iconst rfl rfl ?_
      refine wq_iaddZ rfl (hT.i (k := 2) 8 rfl (by decide) rfl) (wm_zlt (by decide)) (z := ((F 2 8) + 1) % 4294967296) rfl ?_
      obtain ⟨g27, h⟩ := od_gE h
      obtain ⟨F28, e29, h⟩ := od_upE h
      refine wd_iastore (q := 7) (n := 1024) rfl rfl (by decide) g27 (by decide) (Nat.mod_lt _ (by decide)) e29 ?_
      have T30 : xm_T F28 := wd_T e29 (T26.ua (k := 7) (kd := 1000) (n := 1024) (i := F24 2 6) (v := ((F 2 8) + 1) % 4294967296) rfl (by decide) g27 (show ((F 2 8) + 1) % 4294967296 < 4294967296 from (Nat.mod_lt _ (by decide))))
      refine wq_aload_n rfl rfl rfl ?_
      refine wq_dup rfl rfl ?_
      refine xm_getI (q := 2) rfl rfl (by decide) (by decide) ?_
      refine wq_aload_n rfl rfl rfl ?_
      refine xm_getI (q := 2) rfl rfl (by decide) (by decide) ?_
      refine wq_iaddZ rfl (T30.i (k := 2) 9 rfl (by decide) rfl) (T30.i (k := 2) 15 rfl (by decide) rfl) (z := ((F28 2 9) + (F28 2 15)) % 4294967296) rfl ?_
      obtain ⟨y31, e32, h⟩ := od_letE h
      refine wq_top e32.symm ?_
      have p33 : y31 < 4294967296 := wd_lt e32 (Nat.mod_lt _ (by decide))
      obtain ⟨F34, e35, h⟩ := od_upE h
      refine xmE_put (q := 2) rfl rfl (by decide) (by decide) (wq_I p33) e35 ?_
      have T36 : xm_T F34 := wd_T e35 (T30.uf (k := 2) (f := 9) (c := 0) (v := y31) rfl (by decide) rfl (show y31 < 4294967296 from p33))
      refine wq_aload_n rfl rfl rfl ?_
      refine wq_dup rfl rfl ?_
      refine xm_getI (q := 2) rfl rfl (by decide) (by decide) ?_
      refine wq_iconst rfl rfl ?_
      refine wq_iaddZ rfl (T36.i (k := 2) 8 rfl (by decide) rfl) (wm_zlt (by decide)) (z := ((F34 2 8) + 1) % 4294967296) rfl ?_
      obtain ⟨F37, e38, h⟩ := od_upE h
      refine xmE_put (q := 2) rfl rfl (by decide) (by decide) (wq_I (Nat.mod_lt _ (by decide))) e38 ?_
      have T39 : xm_T F37 := wd_T e38 (T36.uf (k := 2) (f := 8) (c := 0) (v := ((F34 2 8) + 1) % 4294967296) rfl (by decide) rfl (show ((F34 2 8) + 1) % 4294967296 < 4294967296 from (Nat.mod_lt _ (by decide))))
      refine wq_iload_n rfl rfl (hT.i (k := 2) 8 rfl (by decide) rfl) ?_
      exact wq_iret rfl (hT.i (k := 2) 8 rfl (by decide) rfl) rfl (wkOI h T39 (hT.i (k := 2) 8 rfl (by decide) rfl))
    · replace h := od_pos h h5
      refine wq_iconst rfl rfl ?_
      exact wq_iret rfl (wm_zlt (by decide)) rfl (wkOI h hT (wm_zlt (by decide)))
/-- X8_begin -/
def dk_10 (F : wq_F) : Option (Nat × wq_F) :=
  od_up F 2 15 0 fun F1 =>
  some (0, F1)
theorem dkT_10 {d : Nat} {F : wq_F} (hT : xm_T F) {x : Nat × wq_F} (h : dk_10 F = some x) : mq (d + 0 + 1) 10 [36893488147419103234] xm_sh F (wkN xm_T xm_sh x) := by
  have e : ev_ent [36893488147419103234] = [36893488147419103234] := by
    rfl
  refine mq_of (maxL := 1) (rt := none) (code := (ev_un al_mX8_begin.2.2.2.2)) (L := [36893488147419103234]) rfl (by rw [e]; exact Nat.le_of_ble_eq_true rfl) (by rw [e]; rfl) ?_
  unfold dk_10 at h
  refine wq_aload_n rfl rfl rfl ?_
  refine wq_iconst rfl rfl ?_
  obtain ⟨F1, e2, h⟩ := od_upE h
  refine xmE_put (q := 2) rfl rfl (by decide) (by decide) (wq_I (wm_zlt (by decide))) e2 ?_
  have T3 : xm_T F1 := wd_T e2 (hT.uf (k := 2) (f := 15) (c := 0) (v := 0) rfl (by decide) rfl (show 0 < 4294967296 from (wm_zlt (by decide))))
  exact wq_ret rfl (wkON h T3)
/-- X8_keepLatent -/
def dk_11 (n : Nat) (F : wq_F) : Option (Nat × wq_F) :=
  (dk_8 n F).bind fun y1 =>
  if y1.1 = 4294967295 then
    (dk_9 y1.2).bind fun y12 =>
    od_g (y12.1 < 3000) <|
    od_up y12.2 9 y12.1 ((ev_b8 2)) fun F17 =>
    od_up F17 2 10 (F17 2 8) fun F20 =>
    od_up F20 2 11 (F20 2 8) fun F23 =>
    some (y12.1, F23)
  else
    od_up y1.2 2 10 (y1.2 2 8) fun F6 =>
    od_up F6 2 11 (F6 2 8) fun F9 =>
    some (y1.1, F9)
theorem dkT_11 {d n : Nat} {F : wq_F} (hT : xm_T F) {x : Nat × wq_F} (h : dk_11 n F = some x) : mq (d + 1 + 1) 11 [36893488147419103234] xm_sh F (wkI xm_T xm_sh x) := by
  have e : ev_ent [36893488147419103234] = [36893488147419103234] := by
    rfl
  refine mq_of (maxL := 2) (rt := (some .int)) (code := (ev_un al_mX8_keepLatent.2.2.2.2)) (L := [36893488147419103234, 73786976294838206464]) rfl (by rw [e]; exact Nat.le_of_ble_eq_true rfl) (by rw [e]; rfl) ?_
  unfold dk_11 at h
  refine wq_aload_n rfl rfl rfl ?_
  obtain ⟨y1, e2, h⟩ := od_bindE h
  refine wd_virtI (q := 2) (y := y1) (as := [36893488147419103234]) rfl rfl rfl (by decide) (Nat.le_of_ble_eq_true rfl) (Nat.le_of_ble_eq_true rfl) rfl (Nat.le_of_ble_eq_true rfl) rfl (dkT_8 hT e2) (fun p3 T4 => ?_)
  refine wq_istore_n rfl p3 (Nat.le_of_ble_eq_true rfl) (Or.inr ⟨_, rfl, rfl⟩) (L' := [36893488147419103234, y1.1]) rfl ?_
  refine wq_iload_n rfl rfl p3 ?_
  refine wq_iconst rfl rfl ?_
  refine wq_ic_ne rfl rfl p3 (by decide) (fun h5 => ?_) (fun h5 => ?_)
  · replace h := od_neg h h5
    refine wq_aload_n rfl rfl rfl ?_
    refine wq_aload_n rfl rfl rfl ?_
    refine xm_getI (q := 2) rfl rfl (by decide) (by decide) ?_
    obtain ⟨F6, e7, h⟩ := od_upE h
    refine xmE_put (q := 2) rfl rfl (by decide) (by decide) (wq_I (T4.i (k := 2) 8 rfl (by decide) rfl)) e7 ?_
    have T8 : xm_T F6 := wd_T e7 (T4.uf (k := 2) (f := 10) (c := 0) (v := y1.2 2 8) rfl (by decide) rfl (show y1.2 2 8 < 4294967296 from (T4.i (k := 2) 8 rfl (by decide) rfl)))
    refine wq_aload_n rfl rfl rfl ?_
    refine wq_aload_n rfl rfl rfl ?_
    refine xm_getI (q := 2) rfl rfl (by decide) (by decide) ?_
    obtain ⟨F9, e10, h⟩ := od_upE h
    refine xmE_put (q := 2) rfl rfl (by decide) (by decide) (wq_I (T8.i (k := 2) 8 rfl (by decide) rfl)) e10 ?_
    have T11 : xm_T F9 := wd_T e10 (T8.uf (k := 2) (f := 11) (c := 0) (v := F6 2 8) rfl (by decide) rfl (show F6 2 8 < 4294967296 from (T8.i (k := 2) 8 rfl (by decide) rfl)))
    refine wq_iload_n rfl rfl p3 ?_
    exact wq_iret rfl p3 rfl (wkOI h T11 p3)
  · replace h := od_pos h h5
    refine wq_aload_n rfl rfl rfl ?_
    obtain ⟨y12, e13, h⟩ := od_bindE h
    refine wd_virtI (q := 2) (y := y12) (as := [36893488147419103234]) rfl rfl rfl (by decide) (Nat.le_of_ble_eq_true rfl) (Nat.le_of_ble_eq_true rfl) rfl (Nat.le_of_ble_eq_true rfl) rfl (dkT_9 T4 e13) (fun p14 T15 => ?_)
    refine wq_istore_n rfl p14 (Nat.le_of_ble_eq_true rfl) (Or.inr ⟨_, rfl, rfl⟩) (L' := [36893488147419103234, y12.1]) rfl ?_
    refine wq_aload_n rfl rfl rfl ?_
    refine xm_getR (v := 36893488147419103241) (q := 2) rfl rfl (by decide) (by decide) (T15.r (k := 2) 7 8 rfl (by decide) rfl) ?_
    refine wq_iload_n rfl rfl p14 ?_
    refine wq_iconst rfl rfl ?_
    obtain ⟨g16, h⟩ := od_gE h
    obtain ⟨F17, e18, h⟩ := od_upE h
    refine wd_bastore (q := 9) (n := 3000) rfl rfl (by decide) g16 (by decide) (by decide) e18 ?_
    have T19 : xm_T F17 := wd_T e18 (T15.ua (k := 9) (kd := 1001) (n := 3000) (i := y12.1) (v := (ev_b8 2)) rfl (by decide) g16 ⟨ev_b8_lt _, wm_b8b8 _⟩)
    refine wq_aload_n rfl rfl rfl ?_
    refine wq_aload_n rfl rfl rfl ?_
    refine xm_getI (q := 2) rfl rfl (by decide) (by decide) ?_
    obtain ⟨F20, e21, h⟩ := od_upE h
    refine xmE_put (q := 2) rfl rfl (by decide) (by decide) (wq_I (T19.i (k := 2) 8 rfl (by decide) rfl)) e21 ?_
    have T22 : xm_T F20 := wd_T e21 (T19.uf (k := 2) (f := 10) (c := 0) (v := F17 2 8) rfl (by decide) rfl (show F17 2 8 < 4294967296 from (T19.i (k := 2) 8 rfl (by decide) rfl)))
    refine wq_aload_n rfl rfl rfl ?_
    refine wq_aload_n rfl rfl rfl ?_
    refine xm_getI (q := 2) rfl rfl (by decide) (by decide) ?_
    obtain ⟨F23, e24, h⟩ := od_upE h
    refine xmE_put (q := 2) rfl rfl (by decide) (by decide) (wq_I (T22.i (k := 2) 8 rfl (by decide) rfl)) e24 ?_
    have T25 : xm_T F23 := wd_T e24 (T22.uf (k := 2) (f := 11) (c := 0) (v := F20 2 8) rfl (by decide) rfl (show F20 2 8 < 4294967296 from (T22.i (k := 2) 8 rfl (by decide) rfl)))
    refine wq_iload_n rfl rfl p14 ?_
    exact wq_iret rfl p14 rfl (wkOI h T25 p14)
def dk_12_15 (n : Nat) (F : wq_F) (v1 : Nat) : Option (Nat × wq_F) :=
  od_g (v1 < 3000) <|
  od_up F 9 v1 ((ev_b8 1)) fun F2 =>
  od_up F2 2 10 (F2 2 8) fun F5 =>
  od_up F5 2 11 (F5 2 8) fun F8 =>
  some (v1, F8)
theorem dk_12_15T {d n : Nat} : ∀ ⦃F : wq_F⦄ (hT : xm_T F) ⦃v1 : Nat⦄ (hv1 : v1 < 4294967296) ⦃x : Nat × wq_F⦄ (h : dk_12_15 n F v1 = some x), wq (wq_cf (d + 1)) (ev_un al_mX8_keepFixed.2.2.2.2) (some .int) 15 [36893488147419103234, v1] [] xm_sh F 0 0 (wkI xm_T xm_sh x) := by
  intro F hT v1 hv1 x h
  unfold dk_12_15 at h
  refine wq_aload_n rfl rfl rfl ?_
  refine xm_getR (v := 36893488147419103241) (q := 2) rfl rfl (by decide) (by decide) (hT.r (k := 2) 7 8 rfl (by decide) rfl) ?_
  refine wq_iload_n rfl rfl hv1 ?_
  refine wq_iconst rfl rfl ?_
  obtain ⟨g1, h⟩ := od_gE h
  obtain ⟨F2, e3, h⟩ := od_upE h
  refine wd_bastore (q := 9) (n := 3000) rfl rfl (by decide) g1 (by decide) (wm_zlt (by decide)) e3 ?_
  have T4 : xm_T F2 := wd_T e3 (hT.ua (k := 9) (kd := 1001) (n := 3000) (i := v1) (v := (ev_b8 1)) rfl (by decide) g1 ⟨ev_b8_lt _, wm_b8b8 _⟩)
  refine wq_aload_n rfl rfl rfl ?_
  refine wq_aload_n rfl rfl rfl ?_
  refine xm_getI (q := 2) rfl rfl (by decide) (by decide) ?_
  obtain ⟨F5, e6, h⟩ := od_upE h
  refine xmE_put (q := 2) rfl rfl (by decide) (by decide) (wq_I (T4.i (k := 2) 8 rfl (by decide) rfl)) e6 ?_
  have T7 : xm_T F5 := wd_T e6 (T4.uf (k := 2) (f := 10) (c := 0) (v := F2 2 8) rfl (by decide) rfl (show F2 2 8 < 4294967296 from (T4.i (k := 2) 8 rfl (by decide) rfl)))
  refine wq_aload_n rfl rfl rfl ?_
  refine wq_aload_n rfl rfl rfl ?_
  refine xm_getI (q := 2) rfl rfl (by decide) (by decide) ?_
  obtain ⟨F8, e9, h⟩ := od_upE h
  refine xmE_put (q := 2) rfl rfl (by decide) (by decide) (wq_I (T7.i (k := 2) 8 rfl (by decide) rfl)) e9 ?_
  have T10 : xm_T F8 := wd_T e9 (T7.uf (k := 2) (f := 11) (c := 0) (v := F5 2 8) rfl (by decide) rfl (show F5 2 8 < 4294967296 from (T7.i (k := 2) 8 rfl (by decide) rfl)))
  refine wq_iload_n rfl rfl hv1 ?_
  exact wq_iret rfl hv1 rfl (wkOI h T10 hv1)
/-- X8_keepFixed -/
def dk_12 (n : Nat) (F : wq_F) : Option (Nat × wq_F) :=
  (dk_8 n F).bind fun y1 =>
  if y1.1 = 4294967295 then
    (dk_9 y1.2).bind fun y6 =>
    dk_12_15 n y6.2 y6.1
  else
    dk_12_15 n y1.2 y1.1
theorem dkT_12 {d n : Nat} {F : wq_F} (hT : xm_T F) {x : Nat × wq_F} (h : dk_12 n F = some x) : mq (d + 1 + 1) 12 [36893488147419103234] xm_sh F (wkI xm_T xm_sh x) := by
  have e : ev_ent [36893488147419103234] = [36893488147419103234] := by
    rfl
  refine mq_of (maxL := 2) (rt := (some .int)) (code := (ev_un al_mX8_keepFixed.2.2.2.2)) (L := [36893488147419103234, 73786976294838206464]) rfl (by rw [e]; exact Nat.le_of_ble_eq_true rfl) (by rw [e]; rfl) ?_
  unfold dk_12 at h
  refine wq_aload_n rfl rfl rfl ?_
  obtain ⟨y1, e2, h⟩ := od_bindE h
  refine wd_virtI (q := 2) (y := y1) (as := [36893488147419103234]) rfl rfl rfl (by decide) (Nat.le_of_ble_eq_true rfl) (Nat.le_of_ble_eq_true rfl) rfl (Nat.le_of_ble_eq_true rfl) rfl (dkT_8 hT e2) (fun p3 T4 => ?_)
  refine wq_istore_n rfl p3 (Nat.le_of_ble_eq_true rfl) (Or.inr ⟨_, rfl, rfl⟩) (L' := [36893488147419103234, y1.1]) rfl ?_
  refine wq_iload_n rfl rfl p3 ?_
  refine wq_iconst rfl rfl ?_
  refine wq_ic_ne rfl rfl p3 (by decide) (fun h5 => ?_) (fun h5 => ?_)
  · replace h := od_neg h h5
    exact dk_12_15T T4 p3 h
  · replace h := od_pos h h5
    refine wq_aload_n rfl rfl rfl ?_
    obtain ⟨y6, e7, h⟩ := od_bindE h
    refine wd_virtI (q := 2) (y := y6) (as := [36893488147419103234]) rfl rfl rfl (by decide) (Nat.le_of_ble_eq_true rfl) (Nat.le_of_ble_eq_true rfl) rfl (Nat.le_of_ble_eq_true rfl) rfl (dkT_9 T4 e7) (fun p8 T9 => ?_)
    refine wq_istore_n rfl p8 (Nat.le_of_ble_eq_true rfl) (Or.inr ⟨_, rfl, rfl⟩) (L' := [36893488147419103234, y6.1]) rfl ?_
    exact dk_12_15T T9 p8 h
def dk_54_7b (n : Nat) (r7 : wq_F → Nat → Nat → Option (Nat × wq_F)) (F : wq_F) (v1 : Nat) (v2 : Nat) : Option (Nat × wq_F) :=
  if ev_s v2 < ev_s v1 then
    od_let (if ev_s v1 < ev_s (F 2 8) then v1 else F 2 8) fun y2 =>
    od_up F 2 8 y2 fun F5 =>
    some (0, F5)
  else
    od_g (v2 < 3000) <|
    od_up F 2 9 (F 4 v2) fun F9 =>
    od_g (v2 < 3000) <|
    od_g (v2 < 3000) <|
    od_g (F9 8 v2 < 1024) <|
    od_up F9 7 (F9 8 v2) (F9 6 v2) fun F15 =>
    od_let ((v2 + 4294967295) % 4294967296) fun y18 =>
    r7 F15 v1 y18
theorem dk_54_7bT {d n : Nat} {r7 : wq_F → Nat → Nat → Option (Nat × wq_F)} (hr7 : ∀ ⦃F : wq_F⦄ (hT : xm_T F) ⦃v1 : Nat⦄ (hv1 : v1 < 4294967296) ⦃v2 : Nat⦄ (hv2 : v2 < 4294967296) ⦃x : Nat × wq_F⦄ (h : r7 F v1 v2 = some x), wq (wq_cf (d + 0)) (ev_un al_mX8_cutTo.2.2.2.2) none 7 [36893488147419103234, v1, v2] [] xm_sh F 0 0 (wkN xm_T xm_sh x)) : ∀ ⦃F : wq_F⦄ (hT : xm_T F) ⦃v1 : Nat⦄ (hv1 : v1 < 4294967296) ⦃v2 : Nat⦄ (hv2 : v2 < 4294967296) ⦃x : Nat × wq_F⦄ (h : dk_54_7b n r7 F v1 v2 = some x), wq (wq_cf (d + 0)) (ev_un al_mX8_cutTo.2.2.2.2) none 7 [36893488147419103234, v1, v2] [] xm_sh F 0 0 (wkN xm_T xm_sh x) := by
  intro F hT v1 hv1 v2 hv2 x h
  unfold dk_54_7b at h
  refine wq_iload_n rfl rfl hv2 ?_
  refine wq_iload_n rfl rfl hv1 ?_
  refine wq_ic_lt rfl rfl hv2 hv1 (fun h1 => ?_) (fun h1 => ?_)
  · replace h := od_pos h h1
    refine wq_aload_n rfl rfl rfl ?_
    refine wq_aload_n rfl rfl rfl ?_
    refine xm_getI (q := 2) rfl rfl (by decide) (by decide) ?_
    refine wq_iload_n rfl rfl hv1 ?_
    refine wq_min rfl (hT.i (k := 2) 8 rfl (by decide) rfl) hv1 (Nat.le_of_ble_eq_true rfl) ?_
    obtain ⟨y2, e3, h⟩ := od_letE h
    refine wq_top e3.symm ?_
    have p4 : y2 < 4294967296 := wd_lt e3 (wd_ite hv1 (hT.i (k := 2) 8 rfl (by decide) rfl))
    obtain ⟨F5, e6, h⟩ := od_upE h
    refine xmE_put (q := 2) rfl rfl (by decide) (by decide) (wq_I p4) e6 ?_
    have T7 : xm_T F5 := wd_T e6 (hT.uf (k := 2) (f := 8) (c := 0) (v := y2) rfl (by decide) rfl (show y2 < 4294967296 from p4))
    exact wq_ret rfl (wkON h T7)
  · replace h := od_neg h (Nat.not_lt.mpr h1)
    refine wq_aload_n rfl rfl rfl ?_
    refine wq_aload_n rfl rfl rfl ?_
    refine xm_getR (v := 36893488147419103236) (q := 2) rfl rfl (by decide) (by decide) (hT.r (k := 2) 1 3 rfl (by decide) rfl) ?_
    refine wq_iload_n rfl rfl hv2 ?_
    obtain ⟨g8, h⟩ := od_gE h
    refine wq_iaload (q := 4) (n := 3000) rfl rfl (by decide) g8 (by decide) ?_
    obtain ⟨F9, e10, h⟩ := od_upE h
    refine xmE_put (q := 2) rfl rfl (by decide) (by decide) (wq_I (hT.ai (k := 4) rfl g8)) e10 ?_
    have T11 : xm_T F9 := wd_T e10 (hT.uf (k := 2) (f := 9) (c := 0) (v := F 4 v2) rfl (by decide) rfl (show F 4 v2 < 4294967296 from (hT.ai (k := 4) rfl g8)))
    refine wq_aload_n rfl rfl rfl ?_
    refine xm_getR (v := 36893488147419103239) (q := 2) rfl rfl (by decide) (by decide) (T11.r (k := 2) 4 6 rfl (by decide) rfl) ?_
    refine wq_aload_n rfl rfl rfl ?_
    refine xm_getR (v := 36893488147419103240) (q := 2) rfl rfl (by decide) (by decide) (T11.r (k := 2) 5 7 rfl (by decide) rfl) ?_
    refine wq_iload_n rfl rfl hv2 ?_
    obtain ⟨g12, h⟩ := od_gE h
    refine wq_iaload (q := 8) (n := 3000) rfl rfl (by decide) g12 (by decide) ?_
    refine wq_aload_n rfl rfl rfl ?_
    refine xm_getR (v := 36893488147419103238) (q := 2) rfl rfl (by decide) (by decide) (T11.r (k := 2) 3 5 rfl (by decide) rfl) ?_
    refine wq_iload_n rfl rfl hv2 ?_
    obtain ⟨g13, h⟩ := od_gE h
    refine wq_iaload (q := 6) (n := 3000) rfl rfl (by decide) g13 (by decide) ?_
    obtain ⟨g14, h⟩ := od_gE h
    obtain ⟨F15, e16, h⟩ := od_upE h
    refine wd_iastore (q := 7) (n := 1024) rfl rfl (by decide) g14 (by decide) (T11.ai (k := 6) rfl g13) e16 ?_
    have T17 : xm_T F15 := wd_T e16 (T11.ua (k := 7) (kd := 1000) (n := 1024) (i := F9 8 v2) (v := F9 6 v2) rfl (by decide) g14 (show F9 6 v2 < 4294967296 from (T11.ai (k := 6) rfl g13)))
    obtain ⟨y18, e19, h⟩ := od_letE h
    have p20 : y18 < 4294967296 := wd_lt e19 (Nat.mod_lt _ (by decide))
    refine wq_iincZ rfl rfl hv2 (Or.inr ⟨_, rfl, (wq_notL hv1)⟩) rfl (z := y18) e19.symm (L' := [36893488147419103234, v1, y18]) rfl ?_
    refine wq_goto rfl rfl ?_
    exact hr7 T17 hv1 p20 h
def dk_54_7 (n : Nat) : Nat → wq_F → Nat → Nat → Option (Nat × wq_F)
  | 0 => fun _ _ _ => none
  | g + 1 => dk_54_7b n (dk_54_7 n g)
theorem dk_54_7T {d n : Nat} : ∀ g : Nat, ∀ ⦃F : wq_F⦄ (hT : xm_T F) ⦃v1 : Nat⦄ (hv1 : v1 < 4294967296) ⦃v2 : Nat⦄ (hv2 : v2 < 4294967296) ⦃x : Nat × wq_F⦄ (h : dk_54_7 n g F v1 v2 = some x), wq (wq_cf (d + 0)) (ev_un al_mX8_cutTo.2.2.2.2) none 7 [36893488147419103234, v1, v2] [] xm_sh F 0 0 (wkN xm_T xm_sh x)
  | 0 => by
    intro F hT v1 hv1 v2 hv2 x h
    cases h
  | g + 1 => dk_54_7bT (dk_54_7T g)
/-- X8_cutTo -/
def dk_54 (n : Nat) (F : wq_F) (a0 : Nat) : Option (Nat × wq_F) :=
  od_let (((F 2 8) + (4294967296 - 1)) % 4294967296) fun y1 =>
  dk_54_7 n n F a0 y1
theorem dkT_54 {d n : Nat} {F : wq_F} (hT : xm_T F) {a0 : Nat} (ha0 : a0 < 4294967296) {x : Nat × wq_F} (h : dk_54 n F a0 = some x) : mq (d + 0 + 1) 54 [36893488147419103234, a0] xm_sh F (wkN xm_T xm_sh x) := by
  have e : ev_ent [36893488147419103234, a0] = [36893488147419103234, a0] := by
    show 36893488147419103234 :: ev_ent [a0] = _
    rw [wm_entI ha0]
    rfl
  refine mq_of (maxL := 3) (rt := none) (code := (ev_un al_mX8_cutTo.2.2.2.2)) (L := [36893488147419103234, a0, 73786976294838206464]) rfl (by rw [e]; exact Nat.le_of_ble_eq_true rfl) (by rw [e]; rfl) ?_
  unfold dk_54 at h
  refine wq_aload_n rfl rfl rfl ?_
  refine xm_getI (q := 2) rfl rfl (by decide) (by decide) ?_
  refine wq_iconst rfl rfl ?_
  refine wq_isubZ rfl (hT.i (k := 2) 8 rfl (by decide) rfl) (wm_zlt (by decide)) (z := ((F 2 8) + (4294967296 - 1)) % 4294967296) rfl ?_
  obtain ⟨y1, e2, h⟩ := od_letE h
  refine wq_top e2.symm ?_
  have p3 : y1 < 4294967296 := wd_lt e2 (Nat.mod_lt _ (by decide))
  refine wq_istore_n rfl p3 (Nat.le_of_ble_eq_true rfl) (Or.inr ⟨_, rfl, (wq_notL ha0)⟩) (L' := [36893488147419103234, a0, y1]) rfl ?_
  exact dk_54_7T n hT ha0 p3 h
def dk_52_18b (n : Nat) (r18 : wq_F → Nat → Option (Nat × wq_F)) (F : wq_F) (v1 : Nat) : Option (Nat × wq_F) :=
  if ev_s v1 < ev_s (F 2 10) then
    od_g (v1 < 3000) <|
    if (F 9 v1) = 1 then
      od_let ((v1 + 1) % 4294967296) fun y4 =>
      r18 F y4
    else
      od_g (v1 < 3000) <|
      od_up F 9 v1 ((ev_b8 2)) fun F8 =>
      od_let ((v1 + 1) % 4294967296) fun y11 =>
      r18 F8 y11
  else
    some (0, F)
theorem dk_52_18bT {d n : Nat} {r18 : wq_F → Nat → Option (Nat × wq_F)} (hr18 : ∀ ⦃F : wq_F⦄ (hT : xm_T F) ⦃v1 : Nat⦄ (hv1 : v1 < 4294967296) ⦃x : Nat × wq_F⦄ (h : r18 F v1 = some x), wq (wq_cf (d + 1)) (ev_un al_mX8_dropText.2.2.2.2) none 18 [36893488147419103234, v1] [] xm_sh F 0 0 (wkN xm_T xm_sh x)) : ∀ ⦃F : wq_F⦄ (hT : xm_T F) ⦃v1 : Nat⦄ (hv1 : v1 < 4294967296) ⦃x : Nat × wq_F⦄ (h : dk_52_18b n r18 F v1 = some x), wq (wq_cf (d + 1)) (ev_un al_mX8_dropText.2.2.2.2) none 18 [36893488147419103234, v1] [] xm_sh F 0 0 (wkN xm_T xm_sh x) := by
  intro F hT v1 hv1 x h
  unfold dk_52_18b at h
  refine wq_iload_n rfl rfl hv1 ?_
  refine wq_aload_n rfl rfl rfl ?_
  refine xm_getI (q := 2) rfl rfl (by decide) (by decide) ?_
  refine wq_ic_ge rfl rfl hv1 (hT.i (k := 2) 10 rfl (by decide) rfl) (fun h1 => ?_) (fun h1 => ?_)
  · replace h := od_neg h (Nat.not_lt.mpr h1)
    exact wq_ret rfl (wkON h hT)
  · replace h := od_pos h h1
    refine wq_aload_n rfl rfl rfl ?_
    refine xm_getR (v := 36893488147419103241) (q := 2) rfl rfl (by decide) (by decide) (hT.r (k := 2) 7 8 rfl (by decide) rfl) ?_
    refine wq_iload_n rfl rfl hv1 ?_
    obtain ⟨g2, h⟩ := od_gE h
    refine wq_baload (q := 9) (n := 3000) rfl rfl (by decide) g2 (by decide) ?_
    refine wq_iconst rfl rfl ?_
    refine wq_ic_eq rfl rfl (hT.ab (k := 9) rfl g2) (wm_zlt (by decide)) (fun h3 => ?_) (fun h3 => ?_)
    · replace h := od_pos h h3
      obtain ⟨y4, e5, h⟩ := od_letE h
      have p6 : y4 < 4294967296 := wd_lt e5 (Nat.mod_lt _ (by decide))
      refine wq_iincZ rfl rfl hv1 (Or.inr ⟨_, rfl, rfl⟩) rfl (z := y4) e5.symm (L' := [36893488147419103234, y4]) rfl ?_
      refine wq_goto rfl rfl ?_
      exact hr18 hT p6 h
    · replace h := od_neg h h3
      refine wq_aload_n rfl rfl rfl ?_
      refine xm_getR (v := 36893488147419103241) (q := 2) rfl rfl (by decide) (by decide) (hT.r (k := 2) 7 8 rfl (by decide) rfl) ?_
      refine wq_iload_n rfl rfl hv1 ?_
      refine wq_iconst rfl rfl ?_
      obtain ⟨g7, h⟩ := od_gE h
      obtain ⟨F8, e9, h⟩ := od_upE h
      refine wd_bastore (q := 9) (n := 3000) rfl rfl (by decide) g7 (by decide) (by decide) e9 ?_
      have T10 : xm_T F8 := wd_T e9 (hT.ua (k := 9) (kd := 1001) (n := 3000) (i := v1) (v := (ev_b8 2)) rfl (by decide) g7 ⟨ev_b8_lt _, wm_b8b8 _⟩)
      obtain ⟨y11, e12, h⟩ := od_letE h
      have p13 : y11 < 4294967296 := wd_lt e12 (Nat.mod_lt _ (by decide))
      refine wq_iincZ rfl rfl hv1 (Or.inr ⟨_, rfl, rfl⟩) rfl (z := y11) e12.symm (L' := [36893488147419103234, y11]) rfl ?_
      refine wq_goto rfl rfl ?_
      exact hr18 T10 p13 h
def dk_52_18 (n : Nat) : Nat → wq_F → Nat → Option (Nat × wq_F)
  | 0 => fun _ _ => none
  | g + 1 => dk_52_18b n (dk_52_18 n g)
theorem dk_52_18T {d n : Nat} : ∀ g : Nat, ∀ ⦃F : wq_F⦄ (hT : xm_T F) ⦃v1 : Nat⦄ (hv1 : v1 < 4294967296) ⦃x : Nat × wq_F⦄ (h : dk_52_18 n g F v1 = some x), wq (wq_cf (d + 1)) (ev_un al_mX8_dropText.2.2.2.2) none 18 [36893488147419103234, v1] [] xm_sh F 0 0 (wkN xm_T xm_sh x)
  | 0 => by
    intro F hT v1 hv1 x h
    cases h
  | g + 1 => dk_52_18bT (dk_52_18T g)
/-- X8_dropText -/
def dk_52 (n : Nat) (F : wq_F) : Option (Nat × wq_F) :=
  (dk_54 n F (F 2 10)).bind fun y1 =>
  od_up y1.2 2 11 (y1.2 2 10) fun F5 =>
  dk_52_18 n n F5 0
theorem dkT_52 {d n : Nat} {F : wq_F} (hT : xm_T F) {x : Nat × wq_F} (h : dk_52 n F = some x) : mq (d + 1 + 1) 52 [36893488147419103234] xm_sh F (wkN xm_T xm_sh x) := by
  have e : ev_ent [36893488147419103234] = [36893488147419103234] := by
    rfl
  refine mq_of (maxL := 2) (rt := none) (code := (ev_un al_mX8_dropText.2.2.2.2)) (L := [36893488147419103234, 73786976294838206464]) rfl (by rw [e]; exact Nat.le_of_ble_eq_true rfl) (by rw [e]; rfl) ?_
  unfold dk_52 at h
  refine wq_aload_n rfl rfl rfl ?_
  refine wq_aload_n rfl rfl rfl ?_
  refine xm_getI (q := 2) rfl rfl (by decide) (by decide) ?_
  obtain ⟨y1, e2, h⟩ := od_bindE h
  refine wd_virtN (q := 2) (y := y1) (as := [36893488147419103234, F 2 10]) rfl rfl rfl (by decide) (Nat.le_of_ble_eq_true rfl) (Nat.le_of_ble_eq_true rfl) rfl (Nat.le_of_ble_eq_true rfl) rfl (dkT_54 hT (hT.i (k := 2) 10 rfl (by decide) rfl) e2) (fun T4 => ?_)
  refine wq_aload_n rfl rfl rfl ?_
  refine wq_aload_n rfl rfl rfl ?_
  refine xm_getI (q := 2) rfl rfl (by decide) (by decide) ?_
  obtain ⟨F5, e6, h⟩ := od_upE h
  refine xmE_put (q := 2) rfl rfl (by decide) (by decide) (wq_I (T4.i (k := 2) 10 rfl (by decide) rfl)) e6 ?_
  have T7 : xm_T F5 := wd_T e6 (T4.uf (k := 2) (f := 11) (c := 0) (v := y1.2 2 10) rfl (by decide) rfl (show y1.2 2 10 < 4294967296 from (T4.i (k := 2) 10 rfl (by decide) rfl)))
  refine wq_iconst rfl rfl ?_
  refine wq_istore_n rfl (wm_zlt (by decide)) (Nat.le_of_ble_eq_true rfl) (Or.inr ⟨_, rfl, rfl⟩) (L' := [36893488147419103234, 0]) rfl ?_
  exact dk_52_18T n T7 (wm_zlt (by decide)) h
def dk_53_10b (n : Nat) (r10 : wq_F → Nat → Option (Nat × wq_F)) (F : wq_F) (v1 : Nat) : Option (Nat × wq_F) :=
  if ev_s v1 < ev_s (F 2 10) then
    od_g (v1 < 3000) <|
    if (F 9 v1) = 4 then
      od_g (v1 < 3000) <|
      od_up F 9 v1 ((ev_b8 2)) fun F14 =>
      od_let ((v1 + 1) % 4294967296) fun y17 =>
      r10 F14 y17
    else
      od_let ((v1 + 1) % 4294967296) fun y10 =>
      r10 F y10
  else
    od_up F 2 12 0 fun F2 =>
    od_up F2 2 13 0 fun F5 =>
    some (0, F5)
theorem dk_53_10bT {d n : Nat} {r10 : wq_F → Nat → Option (Nat × wq_F)} (hr10 : ∀ ⦃F : wq_F⦄ (hT : xm_T F) ⦃v1 : Nat⦄ (hv1 : v1 < 4294967296) ⦃x : Nat × wq_F⦄ (h : r10 F v1 = some x), wq (wq_cf (d + 1)) (ev_un al_mX8_dropMade.2.2.2.2) none 10 [36893488147419103234, v1] [] xm_sh F 0 0 (wkN xm_T xm_sh x)) : ∀ ⦃F : wq_F⦄ (hT : xm_T F) ⦃v1 : Nat⦄ (hv1 : v1 < 4294967296) ⦃x : Nat × wq_F⦄ (h : dk_53_10b n r10 F v1 = some x), wq (wq_cf (d + 1)) (ev_un al_mX8_dropMade.2.2.2.2) none 10 [36893488147419103234, v1] [] xm_sh F 0 0 (wkN xm_T xm_sh x) := by
  intro F hT v1 hv1 x h
  unfold dk_53_10b at h
  refine wq_iload_n rfl rfl hv1 ?_
  refine wq_aload_n rfl rfl rfl ?_
  refine xm_getI (q := 2) rfl rfl (by decide) (by decide) ?_
  refine wq_ic_ge rfl rfl hv1 (hT.i (k := 2) 10 rfl (by decide) rfl) (fun h1 => ?_) (fun h1 => ?_)
  · replace h := od_neg h (Nat.not_lt.mpr h1)
    refine wq_aload_n rfl rfl rfl ?_
    refine wq_iconst rfl rfl ?_
    obtain ⟨F2, e3, h⟩ := od_upE h
    refine xmE_put (q := 2) rfl rfl (by decide) (by decide) (wq_I (wm_zlt (by decide))) e3 ?_
    have T4 : xm_T F2 := wd_T e3 (hT.uf (k := 2) (f := 12) (c := 0) (v := 0) rfl (by decide) rfl (show 0 < 4294967296 from (wm_zlt (by decide))))
    refine wq_aload_n rfl rfl rfl ?_
    refine wq_iconst rfl rfl ?_
    obtain ⟨F5, e6, h⟩ := od_upE h
    refine xmE_put (q := 2) rfl rfl (by decide) (by decide) (wq_I (wm_zlt (by decide))) e6 ?_
    have T7 : xm_T F5 := wd_T e6 (T4.uf (k := 2) (f := 13) (c := 0) (v := 0) rfl (by decide) rfl (show 0 < 4294967296 from (wm_zlt (by decide))))
    exact wq_ret rfl (wkON h T7)
  · replace h := od_pos h h1
    refine wq_aload_n rfl rfl rfl ?_
    refine xm_getR (v := 36893488147419103241) (q := 2) rfl rfl (by decide) (by decide) (hT.r (k := 2) 7 8 rfl (by decide) rfl) ?_
    refine wq_iload_n rfl rfl hv1 ?_
    obtain ⟨g8, h⟩ := od_gE h
    refine wq_baload (q := 9) (n := 3000) rfl rfl (by decide) g8 (by decide) ?_
    refine wq_iconst rfl rfl ?_
    refine wq_ic_ne rfl rfl (hT.ab (k := 9) rfl g8) (by decide) (fun h9 => ?_) (fun h9 => ?_)
    · replace h := od_neg h h9
      obtain ⟨y10, e11, h⟩ := od_letE h
      have p12 : y10 < 4294967296 := wd_lt e11 (Nat.mod_lt _ (by decide))
      refine wq_iincZ rfl rfl hv1 (Or.inr ⟨_, rfl, rfl⟩) rfl (z := y10) e11.symm (L' := [36893488147419103234, y10]) rfl ?_
      refine wq_goto rfl rfl ?_
      exact hr10 hT p12 h
    · replace h := od_pos h h9
      refine wq_aload_n rfl rfl rfl ?_
      refine xm_getR (v := 36893488147419103241) (q := 2) rfl rfl (by decide) (by decide) (hT.r (k := 2) 7 8 rfl (by decide) rfl) ?_
      refine wq_iload_n rfl rfl hv1 ?_
      refine wq_iconst rfl rfl ?_
      obtain ⟨g13, h⟩ := od_gE h
      obtain ⟨F14, e15, h⟩ := od_upE h
      refine wd_bastore (q := 9) (n := 3000) rfl rfl (by decide) g13 (by decide) (by decide) e15 ?_
      have T16 : xm_T F14 := wd_T e15 (hT.ua (k := 9) (kd := 1001) (n := 3000) (i := v1) (v := (ev_b8 2)) rfl (by decide) g13 ⟨ev_b8_lt _, wm_b8b8 _⟩)
      obtain ⟨y17, e18, h⟩ := od_letE h
      have p19 : y17 < 4294967296 := wd_lt e18 (Nat.mod_lt _ (by decide))
      refine wq_iincZ rfl rfl hv1 (Or.inr ⟨_, rfl, rfl⟩) rfl (z := y17) e18.symm (L' := [36893488147419103234, y17]) rfl ?_
      refine wq_goto rfl rfl ?_
      exact hr10 T16 p19 h
def dk_53_10 (n : Nat) : Nat → wq_F → Nat → Option (Nat × wq_F)
  | 0 => fun _ _ => none
  | g + 1 => dk_53_10b n (dk_53_10 n g)
theorem dk_53_10T {d n : Nat} : ∀ g : Nat, ∀ ⦃F : wq_F⦄ (hT : xm_T F) ⦃v1 : Nat⦄ (hv1 : v1 < 4294967296) ⦃x : Nat × wq_F⦄ (h : dk_53_10 n g F v1 = some x), wq (wq_cf (d + 1)) (ev_un al_mX8_dropMade.2.2.2.2) none 10 [36893488147419103234, v1] [] xm_sh F 0 0 (wkN xm_T xm_sh x)
  | 0 => by
    intro F hT v1 hv1 x h
    cases h
  | g + 1 => dk_53_10bT (dk_53_10T g)
/-- X8_dropMade -/
def dk_53 (n : Nat) (F : wq_F) : Option (Nat × wq_F) :=
  (dk_54 n F (F 2 11)).bind fun y1 =>
  dk_53_10 n n y1.2 0
theorem dkT_53 {d n : Nat} {F : wq_F} (hT : xm_T F) {x : Nat × wq_F} (h : dk_53 n F = some x) : mq (d + 1 + 1) 53 [36893488147419103234] xm_sh F (wkN xm_T xm_sh x) := by
  have e : ev_ent [36893488147419103234] = [36893488147419103234] := by
    rfl
  refine mq_of (maxL := 2) (rt := none) (code := (ev_un al_mX8_dropMade.2.2.2.2)) (L := [36893488147419103234, 73786976294838206464]) rfl (by rw [e]; exact Nat.le_of_ble_eq_true rfl) (by rw [e]; rfl) ?_
  unfold dk_53 at h
  refine wq_aload_n rfl rfl rfl ?_
  refine wq_aload_n rfl rfl rfl ?_
  refine xm_getI (q := 2) rfl rfl (by decide) (by decide) ?_
  obtain ⟨y1, e2, h⟩ := od_bindE h
  refine wd_virtN (q := 2) (y := y1) (as := [36893488147419103234, F 2 11]) rfl rfl rfl (by decide) (Nat.le_of_ble_eq_true rfl) (Nat.le_of_ble_eq_true rfl) rfl (Nat.le_of_ble_eq_true rfl) rfl (dkT_54 hT (hT.i (k := 2) 11 rfl (by decide) rfl) e2) (fun T4 => ?_)
  refine wq_iconst rfl rfl ?_
  refine wq_istore_n rfl (wm_zlt (by decide)) (Nat.le_of_ble_eq_true rfl) (Or.inr ⟨_, rfl, rfl⟩) (L' := [36893488147419103234, 0]) rfl ?_
  exact dk_53_10T n T4 (wm_zlt (by decide)) h
/-- X6_clear -/
def dk_56 (F : wq_F) : Option (Nat × wq_F) :=
  od_up F 11 4 0 fun F1 =>
  od_up F1 11 6 0 fun F4 =>
  od_up F4 11 14 0 fun F7 =>
  some (0, F7)
theorem dkT_56 {d : Nat} {F : wq_F} (hT : xm_T F) {x : Nat × wq_F} (h : dk_56 F = some x) : mq (d + 0 + 1) 56 [36893488147419103243] xm_sh F (wkN xm_T xm_sh x) := by
  have e : ev_ent [36893488147419103243] = [36893488147419103243] := by
    rfl
  refine mq_of (maxL := 1) (rt := none) (code := (ev_un al_mX6_clear.2.2.2.2)) (L := [36893488147419103243]) rfl (by rw [e]; exact Nat.le_of_ble_eq_true rfl) (by rw [e]; rfl) ?_
  unfold dk_56 at h
  refine wq_aload_n rfl rfl rfl ?_
  refine wq_iconst rfl rfl ?_
  obtain ⟨F1, e2, h⟩ := od_upE h
  refine xmE_put (q := 11) rfl rfl (by decide) (by decide) (wq_I (wm_zlt (by decide))) e2 ?_
  have T3 : xm_T F1 := wd_T e2 (hT.uf (k := 11) (f := 4) (c := 0) (v := 0) rfl (by decide) rfl (show 0 < 4294967296 from (wm_zlt (by decide))))
  refine wq_aload_n rfl rfl rfl ?_
  refine wq_iconst rfl rfl ?_
  obtain ⟨F4, e5, h⟩ := od_upE h
  refine xmE_put (q := 11) rfl rfl (by decide) (by decide) (wq_I (wm_zlt (by decide))) e5 ?_
  have T6 : xm_T F4 := wd_T e5 (T3.uf (k := 11) (f := 6) (c := 0) (v := 0) rfl (by decide) rfl (show 0 < 4294967296 from (wm_zlt (by decide))))
  refine wq_aload_n rfl rfl rfl ?_
  refine wq_iconst rfl rfl ?_
  obtain ⟨F7, e8, h⟩ := od_upE h
  refine xmE_put (q := 11) rfl rfl (by decide) (by decide) (wq_I (wm_zlt (by decide))) e8 ?_
  have T9 : xm_T F7 := wd_T e8 (T6.uf (k := 11) (f := 14) (c := 0) (v := 0) rfl (by decide) rfl (show 0 < 4294967296 from (wm_zlt (by decide))))
  exact wq_ret rfl (wkON h T9)
/-- X6_addFunction -/
def dk_57 (F : wq_F) (a0 : Nat) : Option (Nat × wq_F) :=
  od_g (F 11 14 < 50) <|
  od_up F 19 (F 11 14) 0 fun F2 =>
  od_g (F 11 14 < 50) <|
  od_up F2 18 (F 11 14) 0 fun F6 =>
  od_g (F 11 14 < 50) <|
  od_up F6 20 (F 11 14) 0 fun F10 =>
  od_g (F 11 14 < 50) <|
  od_up F10 22 (F 11 14) 0 fun F14 =>
  od_g (F 11 14 < 50) <|
  od_up F14 21 (F 11 14) a0 fun F18 =>
  od_let (((F18 11 14) + 1) % 4294967296) fun y21 =>
  od_up F18 11 14 y21 fun F24 =>
  some (F 11 14, F24)
theorem dkT_57 {d : Nat} {F : wq_F} (hT : xm_T F) {a0 : Nat} (ha0 : a0 < 4294967296) {x : Nat × wq_F} (h : dk_57 F a0 = some x) : mq (d + 0 + 1) 57 [36893488147419103243, a0] xm_sh F (wkI xm_T xm_sh x) := by
  have e : ev_ent [36893488147419103243, a0] = [36893488147419103243, a0] := by
    show 36893488147419103243 :: ev_ent [a0] = _
    rw [wm_entI ha0]
    rfl
  refine mq_of (maxL := 3) (rt := (some .int)) (code := (ev_un al_mX6_addFunction.2.2.2.2)) (L := [36893488147419103243, a0, 73786976294838206464]) rfl (by rw [e]; exact Nat.le_of_ble_eq_true rfl) (by rw [e]; rfl) ?_
  unfold dk_57 at h
  refine wq_aload_n rfl rfl rfl ?_
  refine xm_getI (q := 11) rfl rfl (by decide) (by decide) ?_
  refine wq_istore_n rfl (hT.i (k := 11) 14 rfl (by decide) rfl) (Nat.le_of_ble_eq_true rfl) (Or.inr ⟨_, rfl, (wq_notL ha0)⟩) (L' := [36893488147419103243, a0, F 11 14]) rfl ?_
  refine wq_aload_n rfl rfl rfl ?_
  refine xm_getR (v := 36893488147419103251) (q := 11) rfl rfl (by decide) (by decide) (hT.r (k := 11) 9 18 rfl (by decide) rfl) ?_
  refine wq_iload_n rfl rfl (hT.i (k := 11) 14 rfl (by decide) rfl) ?_
  refine wq_iconst rfl rfl ?_
  obtain ⟨g1, h⟩ := od_gE h
  obtain ⟨F2, e3, h⟩ := od_upE h
  refine wd_iastore (q := 19) (n := 50) rfl rfl (by decide) g1 (by decide) (wm_zlt (by decide)) e3 ?_
  have T4 : xm_T F2 := wd_T e3 (hT.ua (k := 19) (kd := 1000) (n := 50) (i := F 11 14) (v := 0) rfl (by decide) g1 (show 0 < 4294967296 from (wm_zlt (by decide))))
  refine wq_aload_n rfl rfl rfl ?_
  refine xm_getR (v := 36893488147419103250) (q := 11) rfl rfl (by decide) (by decide) (T4.r (k := 11) 8 17 rfl (by decide) rfl) ?_
  refine wq_iload_n rfl rfl (hT.i (k := 11) 14 rfl (by decide) rfl) ?_
  refine wq_iconst rfl rfl ?_
  obtain ⟨g5, h⟩ := od_gE h
  obtain ⟨F6, e7, h⟩ := od_upE h
  refine wd_iastore (q := 18) (n := 50) rfl rfl (by decide) g5 (by decide) (wm_zlt (by decide)) e7 ?_
  have T8 : xm_T F6 := wd_T e7 (T4.ua (k := 18) (kd := 1000) (n := 50) (i := F 11 14) (v := 0) rfl (by decide) g5 (show 0 < 4294967296 from (wm_zlt (by decide))))
  refine wq_aload_n rfl rfl rfl ?_
  refine xm_getR (v := 36893488147419103252) (q := 11) rfl rfl (by decide) (by decide) (T8.r (k := 11) 10 19 rfl (by decide) rfl) ?_
  refine wq_iload_n rfl rfl (hT.i (k := 11) 14 rfl (by decide) rfl) ?_
  refine wq_iconst rfl rfl ?_
  obtain ⟨g9, h⟩ := od_gE h
  obtain ⟨F10, e11, h⟩ := od_upE h
  refine wd_iastore (q := 20) (n := 50) rfl rfl (by decide) g9 (by decide) (wm_zlt (by decide)) e11 ?_
  have T12 : xm_T F10 := wd_T e11 (T8.ua (k := 20) (kd := 1000) (n := 50) (i := F 11 14) (v := 0) rfl (by decide) g9 (show 0 < 4294967296 from (wm_zlt (by decide))))
  refine wq_aload_n rfl rfl rfl ?_
  refine xm_getR (v := 36893488147419103254) (q := 11) rfl rfl (by decide) (by decide) (T12.r (k := 11) 12 21 rfl (by decide) rfl) ?_
  refine wq_iload_n rfl rfl (hT.i (k := 11) 14 rfl (by decide) rfl) ?_
  refine wq_iconst rfl rfl ?_
  obtain ⟨g13, h⟩ := od_gE h
  obtain ⟨F14, e15, h⟩ := od_upE h
  refine wd_zastore (q := 22) (n := 50) rfl rfl (by decide) g13 (by decide) (by decide) e15 ?_
  have T16 : xm_T F14 := wd_T e15 (T12.ua (k := 22) (kd := 1002) (n := 50) (i := F 11 14) (v := 0) rfl (by decide) g13 (show 0 < 2 from (by decide)))
  refine wq_aload_n rfl rfl rfl ?_
  refine xm_getR (v := 36893488147419103253) (q := 11) rfl rfl (by decide) (by decide) (T16.r (k := 11) 11 20 rfl (by decide) rfl) ?_
  refine wq_iload_n rfl rfl (hT.i (k := 11) 14 rfl (by decide) rfl) ?_
  refine wq_iload_n rfl rfl ha0 ?_
  obtain ⟨g17, h⟩ := od_gE h
  obtain ⟨F18, e19, h⟩ := od_upE h
  refine wd_iastore (q := 21) (n := 50) rfl rfl (by decide) g17 (by decide) ha0 e19 ?_
  have T20 : xm_T F18 := wd_T e19 (T16.ua (k := 21) (kd := 1000) (n := 50) (i := F 11 14) (v := a0) rfl (by decide) g17 (show a0 < 4294967296 from ha0))
  refine wq_aload_n rfl rfl rfl ?_
  refine wq_dup rfl rfl ?_
  refine xm_getI (q := 11) rfl rfl (by decide) (by decide) ?_
  refine wq_iconst rfl rfl ?_
  refine wq_iaddZ rfl (T20.i (k := 11) 14 rfl (by decide) rfl) (wm_zlt (by decide)) (z := ((F18 11 14) + 1) % 4294967296) rfl ?_
  obtain ⟨y21, e22, h⟩ := od_letE h
  refine wq_top e22.symm ?_
  have p23 : y21 < 4294967296 := wd_lt e22 (Nat.mod_lt _ (by decide))
  obtain ⟨F24, e25, h⟩ := od_upE h
  refine xmE_put (q := 11) rfl rfl (by decide) (by decide) (wq_I p23) e25 ?_
  have T26 : xm_T F24 := wd_T e25 (T20.uf (k := 11) (f := 14) (c := 0) (v := y21) rfl (by decide) rfl (show y21 < 4294967296 from p23))
  refine wq_iload_n rfl rfl (hT.i (k := 11) 14 rfl (by decide) rfl) ?_
  exact wq_iret rfl (hT.i (k := 11) 14 rfl (by decide) rfl) rfl (wkOI h T26 (hT.i (k := 11) 14 rfl (by decide) rfl))
/-- X6_emit -/
def dk_58 (F : wq_F) (a0 : Nat) (a1 : Nat) (a2 : Nat) (a3 : Nat) : Option (Nat × wq_F) :=
  if ev_s (F 11 4) < ev_s 10000 then
    od_g (F 11 4 < 10000) <|
    od_up F 12 (F 11 4) a0 fun F3 =>
    od_g (F3 11 4 < 10000) <|
    od_up F3 13 (F3 11 4) a1 fun F7 =>
    od_g (F7 11 4 < 10000) <|
    od_up F7 14 (F7 11 4) a2 fun F11 =>
    od_g (F11 11 4 < 10000) <|
    od_up F11 15 (F11 11 4) a3 fun F15 =>
    od_let (((F15 11 4) + 1) % 4294967296) fun y18 =>
    od_up F15 11 4 y18 fun F21 =>
    od_let (((F21 11 4) + (4294967296 - 1)) % 4294967296) fun y24 =>
    some (y24, F21)
  else
    od_let (((F 11 4) + (4294967296 - 1)) % 4294967296) fun y27 =>
    some (y27, F)
theorem dkT_58 {d : Nat} {F : wq_F} (hT : xm_T F) {a0 : Nat} (ha0 : a0 < 4294967296) {a1 : Nat} (ha1 : a1 < 4294967296) {a2 : Nat} (ha2 : a2 < 4294967296) {a3 : Nat} (ha3 : a3 < 4294967296) {x : Nat × wq_F} (h : dk_58 F a0 a1 a2 a3 = some x) : mq (d + 0 + 1) 58 [36893488147419103243, a0, a1, a2, a3] xm_sh F (wkI xm_T xm_sh x) := by
  have e : ev_ent [36893488147419103243, a0, a1, a2, a3] = [36893488147419103243, a0, a1, a2, a3] := by
    show 36893488147419103243 :: ev_ent [a0, a1, a2, a3] = _
    rw [wm_entI ha0, wm_entI ha1, wm_entI ha2, wm_entI ha3]
    rfl
  refine mq_of (maxL := 5) (rt := (some .int)) (code := (ev_un al_mX6_emit.2.2.2.2)) (L := [36893488147419103243, a0, a1, a2, a3]) rfl (by rw [e]; exact Nat.le_of_ble_eq_true rfl) (by rw [e]; rfl) ?_
  unfold dk_58 at h
  refine wq_aload_n rfl rfl rfl ?_
  refine xm_getI (q := 11) rfl rfl (by decide) (by decide) ?_
  refine wq_sipush rfl rfl ?_
  refine wq_ic_lt rfl rfl (hT.i (k := 11) 4 rfl (by decide) rfl) (by decide) (fun h1 => ?_) (fun h1 => ?_)
  · replace h := od_pos h h1
    refine wq_aload_n rfl rfl rfl ?_
    refine xm_getR (v := 36893488147419103244) (q := 11) rfl rfl (by decide) (by decide) (hT.r (k := 11) 0 11 rfl (by decide) rfl) ?_
    refine wq_aload_n rfl rfl rfl ?_
    refine xm_getI (q := 11) rfl rfl (by decide) (by decide) ?_
    refine wq_iload_n rfl rfl ha0 ?_
    obtain ⟨g2, h⟩ := od_gE h
    obtain ⟨F3, e4, h⟩ := od_upE h
    refine wd_iastore (q := 12) (n := 10000) rfl rfl (by decide) g2 (by decide) ha0 e4 ?_
    have T5 : xm_T F3 := wd_T e4 (hT.ua (k := 12) (kd := 1000) (n := 10000) (i := F 11 4) (v := a0) rfl (by decide) g2 (show a0 < 4294967296 from ha0))
    refine wq_aload_n rfl rfl rfl ?_
    refine xm_getR (v := 36893488147419103245) (q := 11) rfl rfl (by decide) (by decide) (T5.r (k := 11) 1 12 rfl (by decide) rfl) ?_
    refine wq_aload_n rfl rfl rfl ?_
    refine xm_getI (q := 11) rfl rfl (by decide) (by decide) ?_
    refine wq_iload_n rfl rfl ha1 ?_
    obtain ⟨g6, h⟩ := od_gE h
    obtain ⟨F7, e8, h⟩ := od_upE h
    refine wd_iastore (q := 13) (n := 10000) rfl rfl (by decide) g6 (by decide) ha1 e8 ?_
    have T9 : xm_T F7 := wd_T e8 (T5.ua (k := 13) (kd := 1000) (n := 10000) (i := F3 11 4) (v := a1) rfl (by decide) g6 (show a1 < 4294967296 from ha1))
    refine wq_aload_n rfl rfl rfl ?_
    refine xm_getR (v := 36893488147419103246) (q := 11) rfl rfl (by decide) (by decide) (T9.r (k := 11) 2 13 rfl (by decide) rfl) ?_
    refine wq_aload_n rfl rfl rfl ?_
    refine xm_getI (q := 11) rfl rfl (by decide) (by decide) ?_
    refine wq_iload_n rfl rfl ha2 ?_
    obtain ⟨g10, h⟩ := od_gE h
    obtain ⟨F11, e12, h⟩ := od_upE h
    refine wd_iastore (q := 14) (n := 10000) rfl rfl (by decide) g10 (by decide) ha2 e12 ?_
    have T13 : xm_T F11 := wd_T e12 (T9.ua (k := 14) (kd := 1000) (n := 10000) (i := F7 11 4) (v := a2) rfl (by decide) g10 (show a2 < 4294967296 from ha2))
    refine wq_aload_n rfl rfl rfl ?_
    refine xm_getR (v := 36893488147419103247) (q := 11) rfl rfl (by decide) (by decide) (T13.r (k := 11) 3 14 rfl (by decide) rfl) ?_
    refine wq_aload_n rfl rfl rfl ?_
    refine xm_getI (q := 11) rfl rfl (by decide) (by decide) ?_
    refine wq_iload rfl rfl ha3 ?_
    obtain ⟨g14, h⟩ := od_gE h
    obtain ⟨F15, e16, h⟩ := od_upE h
    refine wd_iastore (q := 15) (n := 10000) rfl rfl (by decide) g14 (by decide) ha3 e16 ?_
    have T17 : xm_T F15 := wd_T e16 (T13.ua (k := 15) (kd := 1000) (n := 10000) (i := F11 11 4) (v := a3) rfl (by decide) g14 (show a3 < 4294967296 from ha3))
    refine wq_aload_n rfl rfl rfl ?_
    refine wq_dup rfl rfl ?_
    refine xm_getI (q := 11) rfl rfl (by decide) (by decide) ?_
    refine wq_iconst rfl rfl ?_
    refine wq_iaddZ rfl (T17.i (k := 11) 4 rfl (by decide) rfl) (wm_zlt (by decide)) (z := ((F15 11 4) + 1) % 4294967296) rfl ?_
    obtain ⟨y18, e19, h⟩ := od_letE h
    refine wq_top e19.symm ?_
    have p20 : y18 < 4294967296 := wd_lt e19 (Nat.mod_lt _ (by decide))
    obtain ⟨F21, e22, h⟩ := od_upE h
    refine xmE_put (q := 11) rfl rfl (by decide) (by decide) (wq_I p20) e22 ?_
    have T23 : xm_T F21 := wd_T e22 (T17.uf (k := 11) (f := 4) (c := 0) (v := y18) rfl (by decide) rfl (show y18 < 4294967296 from p20))
    refine wq_aload_n rfl rfl rfl ?_
    refine xm_getI (q := 11) rfl rfl (by decide) (by decide) ?_
    refine wq_iconst rfl rfl ?_
    refine wq_isubZ rfl (T23.i (k := 11) 4 rfl (by decide) rfl) (wm_zlt (by decide)) (z := ((F21 11 4) + (4294967296 - 1)) % 4294967296) rfl ?_
    obtain ⟨y24, e25, h⟩ := od_letE h
    refine wq_top e25.symm ?_
    have p26 : y24 < 4294967296 := wd_lt e25 (Nat.mod_lt _ (by decide))
    exact wq_iret rfl p26 rfl (wkOI h T23 p26)
  · replace h := od_neg h (Nat.not_lt.mpr h1)
    refine wq_aload_n rfl rfl rfl ?_
    refine xm_getI (q := 11) rfl rfl (by decide) (by decide) ?_
    refine wq_iconst rfl rfl ?_
    refine wq_isubZ rfl (hT.i (k := 11) 4 rfl (by decide) rfl) (wm_zlt (by decide)) (z := ((F 11 4) + (4294967296 - 1)) % 4294967296) rfl ?_
    obtain ⟨y27, e28, h⟩ := od_letE h
    refine wq_top e28.symm ?_
    have p29 : y27 < 4294967296 := wd_lt e28 (Nat.mod_lt _ (by decide))
    exact wq_iret rfl p29 rfl (wkOI h hT p29)
/-- X10_open -/
def dk_72 (F : wq_F) (a0 : Nat) : Option (Nat × wq_F) :=
  od_up F 57 2 a0 fun F1 =>
  od_up F1 57 3 0 fun F4 =>
  od_up F4 57 6 1 fun F7 =>
  od_up F7 57 7 0 fun F10 =>
  od_up F10 57 4 0 fun F13 =>
  some (0, F13)
theorem dkT_72 {d : Nat} {F : wq_F} (hT : xm_T F) {a0 : Nat} (ha0 : a0 < 4294967296) {x : Nat × wq_F} (h : dk_72 F a0 = some x) : mq (d + 0 + 1) 72 [36893488147419103289, a0] xm_sh F (wkN xm_T xm_sh x) := by
  have e : ev_ent [36893488147419103289, a0] = [36893488147419103289, a0] := by
    show 36893488147419103289 :: ev_ent [a0] = _
    rw [wm_entI ha0]
    rfl
  refine mq_of (maxL := 2) (rt := none) (code := (ev_un al_mX10_open.2.2.2.2)) (L := [36893488147419103289, a0]) rfl (by rw [e]; exact Nat.le_of_ble_eq_true rfl) (by rw [e]; rfl) ?_
  unfold dk_72 at h
  refine wq_aload_n rfl rfl rfl ?_
  refine wq_iload_n rfl rfl ha0 ?_
  obtain ⟨F1, e2, h⟩ := od_upE h
  refine xmE_put (q := 57) rfl rfl (by decide) (by decide) (wq_I ha0) e2 ?_
  have T3 : xm_T F1 := wd_T e2 (hT.uf (k := 57) (f := 2) (c := 0) (v := a0) rfl (by decide) rfl (show a0 < 4294967296 from ha0))
  refine wq_aload_n rfl rfl rfl ?_
  refine wq_iconst rfl rfl ?_
  obtain ⟨F4, e5, h⟩ := od_upE h
  refine xmE_put (q := 57) rfl rfl (by decide) (by decide) (wq_I (wm_zlt (by decide))) e5 ?_
  have T6 : xm_T F4 := wd_T e5 (T3.uf (k := 57) (f := 3) (c := 0) (v := 0) rfl (by decide) rfl (show 0 < 4294967296 from (wm_zlt (by decide))))
  refine wq_aload_n rfl rfl rfl ?_
  refine wq_iconst rfl rfl ?_
  obtain ⟨F7, e8, h⟩ := od_upE h
  refine xmE_put (q := 57) rfl rfl (by decide) (by decide) (wq_I (wm_zlt (by decide))) e8 ?_
  have T9 : xm_T F7 := wd_T e8 (T6.uf (k := 57) (f := 6) (c := 0) (v := 1) rfl (by decide) rfl (show 1 < 4294967296 from (wm_zlt (by decide))))
  refine wq_aload_n rfl rfl rfl ?_
  refine wq_iconst rfl rfl ?_
  obtain ⟨F10, e11, h⟩ := od_upE h
  refine xmE_put (q := 57) rfl rfl (by decide) (by decide) (wq_I (wm_zlt (by decide))) e11 ?_
  have T12 : xm_T F10 := wd_T e11 (T9.uf (k := 57) (f := 7) (c := 0) (v := 0) rfl (by decide) rfl (show 0 < 4294967296 from (wm_zlt (by decide))))
  refine wq_aload_n rfl rfl rfl ?_
  refine wq_iconst rfl rfl ?_
  obtain ⟨F13, e14, h⟩ := od_upE h
  refine xmE_put (q := 57) rfl rfl (by decide) (by decide) (wq_I (wm_zlt (by decide))) e14 ?_
  have T15 : xm_T F13 := wd_T e14 (T12.uf (k := 57) (f := 4) (c := 0) (v := 0) rfl (by decide) rfl (show 0 < 4294967296 from (wm_zlt (by decide))))
  exact wq_ret rfl (wkON h T15)
def dk_73_24b (n : Nat) (r24 : wq_F → Nat → Nat → Option (Nat × wq_F)) (F : wq_F) (v1 : Nat) (v2 : Nat) : Option (Nat × wq_F) :=
  if ev_s v2 < ev_s v1 then
    od_g (v2 < 6000) <|
    if (F 1 v2) = 10 then
      od_up F 57 6 (((F 57 6) + 1) % 4294967296) fun F33 =>
      od_let ((v2 + 1) % 4294967296) fun y36 =>
      r24 F33 v1 y36
    else
      od_let ((v2 + 1) % 4294967296) fun y30 =>
      r24 F v1 y30
  else
    od_up F 57 5 v1 fun F2 =>
    od_up F2 57 3 v1 fun F5 =>
    if ev_s (F5 57 5) < ev_s (F5 57 2) then
      od_up F5 57 7 (((F5 57 7) + 1) % 4294967296) fun F9 =>
      od_g (F9 57 5 < 6000) <|
      (dk_188 F9 (F9 1 (F9 57 5))).bind fun y13 =>
      if y13.1 = 0 then
        (dk_187 y13.2 (F9 1 (F9 57 5))).bind fun y18 =>
        if y18.1 = 0 then
          if (F9 1 (F9 57 5)) = 34 then
            some (4, y18.2)
          else
            if (F9 1 (F9 57 5)) = 39 then
              some (4, y18.2)
            else
              some (1, y18.2)
        else
          some (3, y18.2)
      else
        some (2, y13.2)
    else
      od_up F5 57 4 0 fun F25 =>
      some (F25 57 4, F25)
theorem dk_73_24bT {d n : Nat} {r24 : wq_F → Nat → Nat → Option (Nat × wq_F)} (hr24 : ∀ ⦃F : wq_F⦄ (hT : xm_T F) ⦃v1 : Nat⦄ (hv1 : v1 < 4294967296) ⦃v2 : Nat⦄ (hv2 : v2 < 4294967296) ⦃x : Nat × wq_F⦄ (h : r24 F v1 v2 = some x), wq (wq_cf (d + 2)) (ev_un al_mX10_begin.2.2.2.2) (some .int) 24 [36893488147419103289, v1, v2] [] xm_sh F 0 0 (wkI xm_T xm_sh x)) : ∀ ⦃F : wq_F⦄ (hT : xm_T F) ⦃v1 : Nat⦄ (hv1 : v1 < 4294967296) ⦃v2 : Nat⦄ (hv2 : v2 < 4294967296) ⦃x : Nat × wq_F⦄ (h : dk_73_24b n r24 F v1 v2 = some x), wq (wq_cf (d + 2)) (ev_un al_mX10_begin.2.2.2.2) (some .int) 24 [36893488147419103289, v1, v2] [] xm_sh F 0 0 (wkI xm_T xm_sh x) := by
  intro F hT v1 hv1 v2 hv2 x h
  unfold dk_73_24b at h
  refine wq_iload_n rfl rfl hv2 ?_
  refine wq_iload_n rfl rfl hv1 ?_
  refine wq_ic_ge rfl rfl hv2 hv1 (fun h1 => ?_) (fun h1 => ?_)
  · replace h := od_neg h (Nat.not_lt.mpr h1)
    refine wq_aload_n rfl rfl rfl ?_
    refine wq_iload_n rfl rfl hv1 ?_
    obtain ⟨F2, e3, h⟩ := od_upE h
    refine xmE_put (q := 57) rfl rfl (by decide) (by decide) (wq_I hv1) e3 ?_
    have T4 : xm_T F2 := wd_T e3 (hT.uf (k := 57) (f := 5) (c := 0) (v := v1) rfl (by decide) rfl (show v1 < 4294967296 from hv1))
    refine wq_aload_n rfl rfl rfl ?_
    refine wq_iload_n rfl rfl hv1 ?_
    obtain ⟨F5, e6, h⟩ := od_upE h
    refine xmE_put (q := 57) rfl rfl (by decide) (by decide) (wq_I hv1) e6 ?_
    have T7 : xm_T F5 := wd_T e6 (T4.uf (k := 57) (f := 3) (c := 0) (v := v1) rfl (by decide) rfl (show v1 < 4294967296 from hv1))
    refine wq_aload_n rfl rfl rfl ?_
    refine xm_getI (q := 57) rfl rfl (by decide) (by decide) ?_
    refine wq_aload_n rfl rfl rfl ?_
    refine xm_getI (q := 57) rfl rfl (by decide) (by decide) ?_
    refine wq_ic_lt rfl rfl (T7.i (k := 57) 5 rfl (by decide) rfl) (T7.i (k := 57) 2 rfl (by decide) rfl) (fun h8 => ?_) (fun h8 => ?_)
    · replace h := od_pos h h8
      refine wq_aload_n rfl rfl rfl ?_
      refine wq_dup rfl rfl ?_
      refine xm_getI (q := 57) rfl rfl (by decide) (by decide) ?_
      refine wq_iconst rfl rfl ?_
      refine wq_iaddZ rfl (T7.i (k := 57) 7 rfl (by decide) rfl) (wm_zlt (by decide)) (z := ((F5 57 7) + 1) % 4294967296) rfl ?_
      obtain ⟨F9, e10, h⟩ := od_upE h
      refine xmE_put (q := 57) rfl rfl (by decide) (by decide) (wq_I (Nat.mod_lt _ (by decide))) e10 ?_
      have T11 : xm_T F9 := wd_T e10 (T7.uf (k := 57) (f := 7) (c := 0) (v := ((F5 57 7) + 1) % 4294967296) rfl (by decide) rfl (show ((F5 57 7) + 1) % 4294967296 < 4294967296 from (Nat.mod_lt _ (by decide))))
      refine wq_aload_n rfl rfl rfl ?_
      refine xm_getR (v := 36893488147419103233) (q := 57) rfl rfl (by decide) (by decide) (T11.r (k := 57) 0 0 rfl (by decide) rfl) ?_
      refine wq_aload_n rfl rfl rfl ?_
      refine xm_getI (q := 57) rfl rfl (by decide) (by decide) ?_
      obtain ⟨g12, h⟩ := od_gE h
      refine wq_baload (q := 1) (n := 6000) rfl rfl (by decide) g12 (by decide) ?_
      refine wq_istore_n rfl (T11.ab (k := 1) rfl g12) (Nat.le_of_ble_eq_true rfl) (Or.inr ⟨_, rfl, (wq_notL hv1)⟩) (L' := [36893488147419103289, v1, F9 1 (F9 57 5)]) rfl ?_
      refine wq_iload_n rfl rfl (T11.ab (k := 1) rfl g12) ?_
      obtain ⟨y13, e14, h⟩ := od_bindE h
      refine wd_statZ (y := y13) (as := [F9 1 (F9 57 5)]) rfl (by decide) (Nat.le_of_ble_eq_true rfl) rfl (Nat.le_of_ble_eq_true rfl) rfl (dkT_188 T11 (T11.ab (k := 1) rfl g12) e14) (fun p15 T16 => ?_)
      refine wq_if_eq rfl rfl (wm_zlt p15) (fun h17 => ?_) (fun h17 => ?_)
      · replace h := od_pos h h17
        refine wq_iload_n rfl rfl (T11.ab (k := 1) rfl g12) ?_
        obtain ⟨y18, e19, h⟩ := od_bindE h
        refine wd_statZ (y := y18) (as := [F9 1 (F9 57 5)]) rfl (by decide) (Nat.le_of_ble_eq_true rfl) rfl (Nat.le_of_ble_eq_true rfl) rfl (dkT_187 T16 (T11.ab (k := 1) rfl g12) e19) (fun p20 T21 => ?_)
        refine wq_if_eq rfl rfl (wm_zlt p20) (fun h22 => ?_) (fun h22 => ?_)
        · replace h := od_pos h h22
          refine wq_iload_n rfl rfl (T11.ab (k := 1) rfl g12) ?_
          refine wq_bipush rfl rfl ?_
          refine wq_ic_eq rfl rfl (T11.ab (k := 1) rfl g12) (by decide) (fun h23 => ?_) (fun h23 => ?_)
          · replace h := od_pos h h23
            refine wq_iconst rfl rfl ?_
            refine wq_goto rfl rfl ?_
            exact wq_iret rfl (by decide) rfl (wkOI h T21 (by decide))
          · replace h := od_neg h h23
            refine wq_iload_n rfl rfl (T11.ab (k := 1) rfl g12) ?_
            refine wq_bipush rfl rfl ?_
            refine wq_ic_ne rfl rfl (T11.ab (k := 1) rfl g12) (by decide) (fun h24 => ?_) (fun h24 => ?_)
            · replace h := od_neg h h24
              refine wq_iconst rfl rfl ?_
              exact wq_iret rfl (wm_zlt (by decide)) rfl (wkOI h T21 (wm_zlt (by decide)))
            · replace h := od_pos h h24
              refine wq_iconst rfl rfl ?_
              refine wq_goto rfl rfl ?_
              exact wq_iret rfl (by decide) rfl (wkOI h T21 (by decide))
        · replace h := od_neg h h22
          refine wq_iconst rfl rfl ?_
          exact wq_iret rfl (by decide) rfl (wkOI h T21 (by decide))
      · replace h := od_neg h h17
        refine wq_iconst rfl rfl ?_
        exact wq_iret rfl (by decide) rfl (wkOI h T16 (by decide))
    · replace h := od_neg h (Nat.not_lt.mpr h8)
      refine wq_aload_n rfl rfl rfl ?_
      refine wq_iconst rfl rfl ?_
      obtain ⟨F25, e26, h⟩ := od_upE h
      refine xmE_put (q := 57) rfl rfl (by decide) (by decide) (wq_I (wm_zlt (by decide))) e26 ?_
      have T27 : xm_T F25 := wd_T e26 (T7.uf (k := 57) (f := 4) (c := 0) (v := 0) rfl (by decide) rfl (show 0 < 4294967296 from (wm_zlt (by decide))))
      refine wq_aload_n rfl rfl rfl ?_
      refine xm_getI (q := 57) rfl rfl (by decide) (by decide) ?_
      exact wq_iret rfl (T27.i (k := 57) 4 rfl (by decide) rfl) rfl (wkOI h T27 (T27.i (k := 57) 4 rfl (by decide) rfl))
  · replace h := od_pos h h1
    refine wq_aload_n rfl rfl rfl ?_
    refine xm_getR (v := 36893488147419103233) (q := 57) rfl rfl (by decide) (by decide) (hT.r (k := 57) 0 0 rfl (by decide) rfl) ?_
    refine wq_iload_n rfl rfl hv2 ?_
    obtain ⟨g28, h⟩ := od_gE h
    refine wq_baload (q := 1) (n := 6000) rfl rfl (by decide) g28 (by decide) ?_
    refine wq_bipush rfl rfl ?_
    refine wq_ic_ne rfl rfl (hT.ab (k := 1) rfl g28) (by decide) (fun h29 => ?_) (fun h29 => ?_)
    · replace h := od_neg h h29
      obtain ⟨y30, e31, h⟩ := od_letE h
      have p32 : y30 < 4294967296 := wd_lt e31 (Nat.mod_lt _ (by decide))
      refine wq_iincZ rfl rfl hv2 (Or.inr ⟨_, rfl, (wq_notL hv1)⟩) rfl (z := y30) e31.symm (L' := [36893488147419103289, v1, y30]) rfl ?_
      refine wq_goto rfl rfl ?_
      exact hr24 hT hv1 p32 h
    · replace h := od_pos h h29
      refine wq_aload_n rfl rfl rfl ?_
      refine wq_dup rfl rfl ?_
      refine xm_getI (q := 57) rfl rfl (by decide) (by decide) ?_
      refine wq_iconst rfl rfl ?_
      refine wq_iaddZ rfl (hT.i (k := 57) 6 rfl (by decide) rfl) (wm_zlt (by decide)) (z := ((F 57 6) + 1) % 4294967296) rfl ?_
      obtain ⟨F33, e34, h⟩ := od_upE h
      refine xmE_put (q := 57) rfl rfl (by decide) (by decide) (wq_I (Nat.mod_lt _ (by decide))) e34 ?_
      have T35 : xm_T F33 := wd_T e34 (hT.uf (k := 57) (f := 6) (c := 0) (v := ((F 57 6) + 1) % 4294967296) rfl (by decide) rfl (show ((F 57 6) + 1) % 4294967296 < 4294967296 from (Nat.mod_lt _ (by decide))))
      obtain ⟨y36, e37, h⟩ := od_letE h
      have p38 : y36 < 4294967296 := wd_lt e37 (Nat.mod_lt _ (by decide))
      refine wq_iincZ rfl rfl hv2 (Or.inr ⟨_, rfl, (wq_notL hv1)⟩) rfl (z := y36) e37.symm (L' := [36893488147419103289, v1, y36]) rfl ?_
      refine wq_goto rfl rfl ?_
      exact hr24 T35 hv1 p38 h
def dk_73_24 (n : Nat) : Nat → wq_F → Nat → Nat → Option (Nat × wq_F)
  | 0 => fun _ _ _ => none
  | g + 1 => dk_73_24b n (dk_73_24 n g)
theorem dk_73_24T {d n : Nat} : ∀ g : Nat, ∀ ⦃F : wq_F⦄ (hT : xm_T F) ⦃v1 : Nat⦄ (hv1 : v1 < 4294967296) ⦃v2 : Nat⦄ (hv2 : v2 < 4294967296) ⦃x : Nat × wq_F⦄ (h : dk_73_24 n g F v1 v2 = some x), wq (wq_cf (d + 2)) (ev_un al_mX10_begin.2.2.2.2) (some .int) 24 [36893488147419103289, v1, v2] [] xm_sh F 0 0 (wkI xm_T xm_sh x)
  | 0 => by
    intro F hT v1 hv1 v2 hv2 x h
    cases h
  | g + 1 => dk_73_24bT (dk_73_24T g)
/-- X10_begin -/
def dk_73 (n : Nat) (F : wq_F) : Option (Nat × wq_F) :=
  if (F 57 4) = 5 then
    some (5, F)
  else
    (dk_74 F (F 57 3)).bind fun y2 =>
    dk_73_24 n n y2.2 y2.1 (y2.2 57 3)
theorem dkT_73 {d n : Nat} {F : wq_F} (hT : xm_T F) {x : Nat × wq_F} (h : dk_73 n F = some x) : mq (d + 2 + 1) 73 [36893488147419103289] xm_sh F (wkI xm_T xm_sh x) := by
  have e : ev_ent [36893488147419103289] = [36893488147419103289] := by
    rfl
  refine mq_of (maxL := 3) (rt := (some .int)) (code := (ev_un al_mX10_begin.2.2.2.2)) (L := [36893488147419103289, 73786976294838206464, 73786976294838206464]) rfl (by rw [e]; exact Nat.le_of_ble_eq_true rfl) (by rw [e]; rfl) ?_
  unfold dk_73 at h
  refine wq_aload_n rfl rfl rfl ?_
  refine xm_getI (q := 57) rfl rfl (by decide) (by decide) ?_
  refine wq_iconst rfl rfl ?_
  refine wq_ic_ne rfl rfl (hT.i (k := 57) 4 rfl (by decide) rfl) (by decide) (fun h1 => ?_) (fun h1 => ?_)
  · replace h := od_neg h h1
    refine wq_aload_n rfl rfl rfl ?_
    refine wq_aload_n rfl rfl rfl ?_
    refine xm_getI (q := 57) rfl rfl (by decide) (by decide) ?_
    obtain ⟨y2, e3, h⟩ := od_bindE h
    refine wd_virtI (q := 57) (y := y2) (as := [36893488147419103289, F 57 3]) rfl rfl rfl (by decide) (Nat.le_of_ble_eq_true rfl) (Nat.le_of_ble_eq_true rfl) rfl (Nat.le_of_ble_eq_true rfl) rfl (dkT_74 hT (hT.i (k := 57) 3 rfl (by decide) rfl) e3) (fun p4 T5 => ?_)
    refine wq_istore_n rfl p4 (Nat.le_of_ble_eq_true rfl) (Or.inr ⟨_, rfl, rfl⟩) (L' := [36893488147419103289, y2.1, 73786976294838206464]) rfl ?_
    refine wq_aload_n rfl rfl rfl ?_
    refine xm_getI (q := 57) rfl rfl (by decide) (by decide) ?_
    refine wq_istore_n rfl (T5.i (k := 57) 3 rfl (by decide) rfl) (Nat.le_of_ble_eq_true rfl) (Or.inr ⟨_, rfl, (wq_notL p4)⟩) (L' := [36893488147419103289, y2.1, y2.2 57 3]) rfl ?_
    exact dk_73_24T n T5 p4 (T5.i (k := 57) 3 rfl (by decide) rfl) h
  · replace h := od_pos h h1
    refine wq_iconst rfl rfl ?_
    exact wq_iret rfl (by decide) rfl (wkOI h hT (by decide))
/-- X7_clear -/
def dk_82 (F : wq_F) : Option (Nat × wq_F) :=
  od_up F 59 8 4294967295 fun F1 =>
  od_up F1 59 3 0 fun F4 =>
  some (0, F4)
theorem dkT_82 {d : Nat} {F : wq_F} (hT : xm_T F) {x : Nat × wq_F} (h : dk_82 F = some x) : mq (d + 0 + 1) 82 [36893488147419103291] xm_sh F (wkN xm_T xm_sh x) := by
  have e : ev_ent [36893488147419103291] = [36893488147419103291] := by
    rfl
  refine mq_of (maxL := 1) (rt := none) (code := (ev_un al_mX7_clear.2.2.2.2)) (L := [36893488147419103291]) rfl (by rw [e]; exact Nat.le_of_ble_eq_true rfl) (by rw [e]; rfl) ?_
  unfold dk_82 at h
  refine wq_aload_n rfl rfl rfl ?_
  refine wq_iconst rfl rfl ?_
  obtain ⟨F1, e2, h⟩ := od_upE h
  refine xmE_put (q := 59) rfl rfl (by decide) (by decide) (wq_I (by decide)) e2 ?_
  have T3 : xm_T F1 := wd_T e2 (hT.uf (k := 59) (f := 8) (c := 0) (v := 4294967295) rfl (by decide) rfl (show 4294967295 < 4294967296 from (by decide)))
  refine wq_aload_n rfl rfl rfl ?_
  refine wq_iconst rfl rfl ?_
  obtain ⟨F4, e5, h⟩ := od_upE h
  refine xmE_put (q := 59) rfl rfl (by decide) (by decide) (wq_I (wm_zlt (by decide))) e5 ?_
  have T6 : xm_T F4 := wd_T e5 (T3.uf (k := 59) (f := 3) (c := 0) (v := 0) rfl (by decide) rfl (show 0 < 4294967296 from (wm_zlt (by decide))))
  exact wq_ret rfl (wkON h T6)
/-- X7_enter -/
def dk_83 (F : wq_F) (a0 : Nat) : Option (Nat × wq_F) :=
  od_up F 59 8 (((F 59 8) + 1) % 4294967296) fun F1 =>
  od_g (F1 59 8 < 24) <|
  od_up F1 62 (F1 59 8) a0 fun F5 =>
  od_g (F5 59 8 < 24) <|
  od_up F5 63 (F5 59 8) (F5 59 3) fun F9 =>
  od_g (F9 59 8 < 24) <|
  od_up F9 64 (F9 59 8) 0 fun F13 =>
  od_g (F13 59 8 < 24) <|
  od_up F13 65 (F13 59 8) 4294967294 fun F17 =>
  some (0, F17)
theorem dkT_83 {d : Nat} {F : wq_F} (hT : xm_T F) {a0 : Nat} (ha0 : a0 < 4294967296) {x : Nat × wq_F} (h : dk_83 F a0 = some x) : mq (d + 0 + 1) 83 [36893488147419103291, a0] xm_sh F (wkN xm_T xm_sh x) := by
  have e : ev_ent [36893488147419103291, a0] = [36893488147419103291, a0] := by
    show 36893488147419103291 :: ev_ent [a0] = _
    rw [wm_entI ha0]
    rfl
  refine mq_of (maxL := 2) (rt := none) (code := (ev_un al_mX7_enter.2.2.2.2)) (L := [36893488147419103291, a0]) rfl (by rw [e]; exact Nat.le_of_ble_eq_true rfl) (by rw [e]; rfl) ?_
  unfold dk_83 at h
  refine wq_aload_n rfl rfl rfl ?_
  refine wq_dup rfl rfl ?_
  refine xm_getI (q := 59) rfl rfl (by decide) (by decide) ?_
  refine wq_iconst rfl rfl ?_
  refine wq_iaddZ rfl (hT.i (k := 59) 8 rfl (by decide) rfl) (wm_zlt (by decide)) (z := ((F 59 8) + 1) % 4294967296) rfl ?_
  obtain ⟨F1, e2, h⟩ := od_upE h
  refine xmE_put (q := 59) rfl rfl (by decide) (by decide) (wq_I (Nat.mod_lt _ (by decide))) e2 ?_
  have T3 : xm_T F1 := wd_T e2 (hT.uf (k := 59) (f := 8) (c := 0) (v := ((F 59 8) + 1) % 4294967296) rfl (by decide) rfl (show ((F 59 8) + 1) % 4294967296 < 4294967296 from (Nat.mod_lt _ (by decide))))
  refine wq_aload_n rfl rfl rfl ?_
  refine xm_getR (v := 36893488147419103294) (q := 59) rfl rfl (by decide) (by decide) (T3.r (k := 59) 4 61 rfl (by decide) rfl) ?_
  refine wq_aload_n rfl rfl rfl ?_
  refine xm_getI (q := 59) rfl rfl (by decide) (by decide) ?_
  refine wq_iload_n rfl rfl ha0 ?_
  obtain ⟨g4, h⟩ := od_gE h
  obtain ⟨F5, e6, h⟩ := od_upE h
  refine wd_iastore (q := 62) (n := 24) rfl rfl (by decide) g4 (by decide) ha0 e6 ?_
  have T7 : xm_T F5 := wd_T e6 (T3.ua (k := 62) (kd := 1000) (n := 24) (i := F1 59 8) (v := a0) rfl (by decide) g4 (show a0 < 4294967296 from ha0))
  refine wq_aload_n rfl rfl rfl ?_
  refine xm_getR (v := 36893488147419103295) (q := 59) rfl rfl (by decide) (by decide) (T7.r (k := 59) 5 62 rfl (by decide) rfl) ?_
  refine wq_aload_n rfl rfl rfl ?_
  refine xm_getI (q := 59) rfl rfl (by decide) (by decide) ?_
  refine wq_aload_n rfl rfl rfl ?_
  refine xm_getI (q := 59) rfl rfl (by decide) (by decide) ?_
  obtain ⟨g8, h⟩ := od_gE h
  obtain ⟨F9, e10, h⟩ := od_upE h
  refine wd_iastore (q := 63) (n := 24) rfl rfl (by decide) g8 (by decide) (T7.i (k := 59) 3 rfl (by decide) rfl) e10 ?_
  have T11 : xm_T F9 := wd_T e10 (T7.ua (k := 63) (kd := 1000) (n := 24) (i := F5 59 8) (v := F5 59 3) rfl (by decide) g8 (show F5 59 3 < 4294967296 from (T7.i (k := 59) 3 rfl (by decide) rfl)))
  refine wq_aload_n rfl rfl rfl ?_
  refine xm_getR (v := 36893488147419103296) (q := 59) rfl rfl (by decide) (by decide) (T11.r (k := 59) 6 63 rfl (by decide) rfl) ?_
  refine wq_aload_n rfl rfl rfl ?_
  refine xm_getI (q := 59) rfl rfl (by decide) (by decide) ?_
  refine wq_iconst rfl rfl ?_
  obtain ⟨g12, h⟩ := od_gE h
  obtain ⟨F13, e14, h⟩ := od_upE h
  refine wd_iastore (q := 64) (n := 24) rfl rfl (by decide) g12 (by decide) (wm_zlt (by decide)) e14 ?_
  have T15 : xm_T F13 := wd_T e14 (T11.ua (k := 64) (kd := 1000) (n := 24) (i := F9 59 8) (v := 0) rfl (by decide) g12 (show 0 < 4294967296 from (wm_zlt (by decide))))
  refine wq_aload_n rfl rfl rfl ?_
  refine xm_getR (v := 36893488147419103297) (q := 59) rfl rfl (by decide) (by decide) (T15.r (k := 59) 7 64 rfl (by decide) rfl) ?_
  refine wq_aload_n rfl rfl rfl ?_
  refine xm_getI (q := 59) rfl rfl (by decide) (by decide) ?_
  refine wq_bipush rfl rfl ?_
  obtain ⟨g16, h⟩ := od_gE h
  obtain ⟨F17, e18, h⟩ := od_upE h
  refine wd_iastore (q := 65) (n := 24) rfl rfl (by decide) g16 (by decide) (by decide) e18 ?_
  have T19 : xm_T F17 := wd_T e18 (T15.ua (k := 65) (kd := 1000) (n := 24) (i := F13 59 8) (v := 4294967294) rfl (by decide) g16 (show 4294967294 < 4294967296 from (by decide)))
  exact wq_ret rfl (wkON h T19)
/-- X10_stop -/
def dk_184 (F : wq_F) : Option (Nat × wq_F) :=
  od_up F 57 4 5 fun F1 =>
  some (0, F1)
theorem dkT_184 {d : Nat} {F : wq_F} (hT : xm_T F) {x : Nat × wq_F} (h : dk_184 F = some x) : mq (d + 0 + 1) 184 [36893488147419103289] xm_sh F (wkN xm_T xm_sh x) := by
  have e : ev_ent [36893488147419103289] = [36893488147419103289] := by
    rfl
  refine mq_of (maxL := 1) (rt := none) (code := (ev_un al_mX10_stop.2.2.2.2)) (L := [36893488147419103289]) rfl (by rw [e]; exact Nat.le_of_ble_eq_true rfl) (by rw [e]; rfl) ?_
  unfold dk_184 at h
  refine wq_aload_n rfl rfl rfl ?_
  refine wq_iconst rfl rfl ?_
  obtain ⟨F1, e2, h⟩ := od_upE h
  refine xmE_put (q := 57) rfl rfl (by decide) (by decide) (wq_I (by decide)) e2 ?_
  have T3 : xm_T F1 := wd_T e2 (hT.uf (k := 57) (f := 4) (c := 0) (v := 5) rfl (by decide) rfl (show 5 < 4294967296 from (by decide)))
  exact wq_ret rfl (wkON h T3)
def dk_109_60 (F : wq_F) : Option (Nat × wq_F) :=
  od_up F 56 5 (F 57 5) fun F1 =>
  od_up F1 56 6 (F1 57 6) fun F4 =>
  (dk_184 F4).bind fun y7 =>
  some (0, y7.2)
theorem dk_109_60T {d : Nat} : ∀ ⦃u1 : Nat⦄ ⦃F : wq_F⦄ (hT : xm_T F) (hu1 : ev_isL u1 = false) ⦃x : Nat × wq_F⦄ (h : dk_109_60 F = some x), wq (wq_cf (d + 1)) (ev_un al_mX4_refuse.2.2.2.2) none 60 [36893488147419103288, u1] [] xm_sh F 0 0 (wkN xm_T xm_sh x) := by
  intro u1 F hT hu1 x h
  unfold dk_109_60 at h
  refine wq_aload_n rfl rfl rfl ?_
  refine wq_aload_n rfl rfl rfl ?_
  refine xm_getR (v := 36893488147419103289) (q := 56) rfl rfl (by decide) (by decide) (hT.r (k := 56) 0 56 rfl (by decide) rfl) ?_
  refine xm_getI (q := 57) rfl rfl (by decide) (by decide) ?_
  obtain ⟨F1, e2, h⟩ := od_upE h
  refine xmE_put (q := 56) rfl rfl (by decide) (by decide) (wq_I (hT.i (k := 57) 5 rfl (by decide) rfl)) e2 ?_
  have T3 : xm_T F1 := wd_T e2 (hT.uf (k := 56) (f := 5) (c := 0) (v := F 57 5) rfl (by decide) rfl (show F 57 5 < 4294967296 from (hT.i (k := 57) 5 rfl (by decide) rfl)))
  refine wq_aload_n rfl rfl rfl ?_
  refine wq_aload_n rfl rfl rfl ?_
  refine xm_getR (v := 36893488147419103289) (q := 56) rfl rfl (by decide) (by decide) (T3.r (k := 56) 0 56 rfl (by decide) rfl) ?_
  refine xm_getI (q := 57) rfl rfl (by decide) (by decide) ?_
  obtain ⟨F4, e5, h⟩ := od_upE h
  refine xmE_put (q := 56) rfl rfl (by decide) (by decide) (wq_I (T3.i (k := 57) 6 rfl (by decide) rfl)) e5 ?_
  have T6 : xm_T F4 := wd_T e5 (T3.uf (k := 56) (f := 6) (c := 0) (v := F1 57 6) rfl (by decide) rfl (show F1 57 6 < 4294967296 from (T3.i (k := 57) 6 rfl (by decide) rfl)))
  refine wq_aload_n rfl rfl rfl ?_
  refine xm_getR (v := 36893488147419103289) (q := 56) rfl rfl (by decide) (by decide) (T6.r (k := 56) 0 56 rfl (by decide) rfl) ?_
  obtain ⟨y7, e8, h⟩ := od_bindE h
  refine wd_virtN (q := 57) (y := y7) (as := [36893488147419103289]) rfl rfl rfl (by decide) (Nat.le_of_ble_eq_true rfl) (Nat.le_of_ble_eq_true rfl) rfl (Nat.le_of_ble_eq_true rfl) rfl (dkT_184 T6 e8) (fun T10 => ?_)
  exact wq_ret rfl (wkON h T10)
def dk_109_37 (F : wq_F) (v1 : Nat) : Option (Nat × wq_F) :=
  if v1 = 4 then
    if ev_s 1500 < ev_s (F 57 7) then
      od_up F 56 4 3 fun F3 =>
      dk_109_60 F3
    else
      dk_109_60 F
  else
    dk_109_60 F
theorem dk_109_37T {d : Nat} : ∀ ⦃F : wq_F⦄ (hT : xm_T F) ⦃v1 : Nat⦄ (hv1 : v1 < 4294967296) ⦃x : Nat × wq_F⦄ (h : dk_109_37 F v1 = some x), wq (wq_cf (d + 1)) (ev_un al_mX4_refuse.2.2.2.2) none 37 [36893488147419103288, v1] [] xm_sh F 0 0 (wkN xm_T xm_sh x) := by
  intro F hT v1 hv1 x h
  unfold dk_109_37 at h
  refine wq_iload_n rfl rfl hv1 ?_
  refine wq_iconst rfl rfl ?_
  refine wq_ic_ne rfl rfl hv1 (by decide) (fun h1 => ?_) (fun h1 => ?_)
  · replace h := od_neg h h1
    exact dk_109_60T hT (wq_notL hv1) h
  · replace h := od_pos h h1
    refine wq_aload_n rfl rfl rfl ?_
    refine xm_getR (v := 36893488147419103289) (q := 56) rfl rfl (by decide) (by decide) (hT.r (k := 56) 0 56 rfl (by decide) rfl) ?_
    refine xm_getI (q := 57) rfl rfl (by decide) (by decide) ?_
    refine wq_sipush rfl rfl ?_
    refine wq_ic_le rfl rfl (hT.i (k := 57) 7 rfl (by decide) rfl) (by decide) (fun h2 => ?_) (fun h2 => ?_)
    · replace h := od_neg h (Nat.not_lt.mpr h2)
      exact dk_109_60T hT (wq_notL hv1) h
    · replace h := od_pos h h2
      refine wq_aload_n rfl rfl rfl ?_
      refine wq_iconst rfl rfl ?_
      obtain ⟨F3, e4, h⟩ := od_upE h
      refine xmE_put (q := 56) rfl rfl (by decide) (by decide) (wq_I (by decide)) e4 ?_
      have T5 : xm_T F3 := wd_T e4 (hT.uf (k := 56) (f := 4) (c := 0) (v := 3) rfl (by decide) rfl (show 3 < 4294967296 from (by decide)))
      exact dk_109_60T T5 (wq_notL hv1) h
/-- X4_refuse -/
def dk_109 (F : wq_F) (a0 : Nat) : Option (Nat × wq_F) :=
  if (F 56 4) = 0 then
    od_up F 56 4 a0 fun F2 =>
    if a0 = 2 then
      if (F2 57 4) = 1 then
        od_up F2 56 4 1 fun F7 =>
        dk_109_60 F7
      else
        dk_109_37 F2 a0
    else
      dk_109_37 F2 a0
  else
    some (0, F)
theorem dkT_109 {d : Nat} {F : wq_F} (hT : xm_T F) {a0 : Nat} (ha0 : a0 < 4294967296) {x : Nat × wq_F} (h : dk_109 F a0 = some x) : mq (d + 1 + 1) 109 [36893488147419103288, a0] xm_sh F (wkN xm_T xm_sh x) := by
  have e : ev_ent [36893488147419103288, a0] = [36893488147419103288, a0] := by
    show 36893488147419103288 :: ev_ent [a0] = _
    rw [wm_entI ha0]
    rfl
  refine mq_of (maxL := 2) (rt := none) (code := (ev_un al_mX4_refuse.2.2.2.2)) (L := [36893488147419103288, a0]) rfl (by rw [e]; exact Nat.le_of_ble_eq_true rfl) (by rw [e]; rfl) ?_
  unfold dk_109 at h
  refine wq_aload_n rfl rfl rfl ?_
  refine xm_getI (q := 56) rfl rfl (by decide) (by decide) ?_
  refine wq_if_eq rfl rfl (hT.i (k := 56) 4 rfl (by decide) rfl) (fun h1 => ?_) (fun h1 => ?_)
  · replace h := od_pos h h1
    refine wq_aload_n rfl rfl rfl ?_
    refine wq_iload_n rfl rfl ha0 ?_
    obtain ⟨F2, e3, h⟩ := od_upE h
    refine xmE_put (q := 56) rfl rfl (by decide) (by decide) (wq_I ha0) e3 ?_
    have T4 : xm_T F2 := wd_T e3 (hT.uf (k := 56) (f := 4) (c := 0) (v := a0) rfl (by decide) rfl (show a0 < 4294967296 from ha0))
    refine wq_iload_n rfl rfl ha0 ?_
    refine wq_iconst rfl rfl ?_
    refine wq_ic_ne rfl rfl ha0 (by decide) (fun h5 => ?_) (fun h5 => ?_)
    · replace h := od_neg h h5
      exact dk_109_37T T4 ha0 h
    · replace h := od_pos h h5
      refine wq_aload_n rfl rfl rfl ?_
      refine xm_getR (v := 36893488147419103289) (q := 56) rfl rfl (by decide) (by decide) (T4.r (k := 56) 0 56 rfl (by decide) rfl) ?_
      refine xm_getI (q := 57) rfl rfl (by decide) (by decide) ?_
      refine wq_iconst rfl rfl ?_
      refine wq_ic_ne rfl rfl (T4.i (k := 57) 4 rfl (by decide) rfl) (wm_zlt (by decide)) (fun h6 => ?_) (fun h6 => ?_)
      · replace h := od_neg h h6
        exact dk_109_37T T4 ha0 h
      · replace h := od_pos h h6
        refine wq_aload_n rfl rfl rfl ?_
        refine wq_iconst rfl rfl ?_
        obtain ⟨F7, e8, h⟩ := od_upE h
        refine xmE_put (q := 56) rfl rfl (by decide) (by decide) (wq_I (wm_zlt (by decide))) e8 ?_
        have T9 : xm_T F7 := wd_T e8 (T4.uf (k := 56) (f := 4) (c := 0) (v := 1) rfl (by decide) rfl (show 1 < 4294967296 from (wm_zlt (by decide))))
        refine wq_goto rfl rfl ?_
        exact dk_109_60T T9 (wq_notL ha0) h
  · replace h := od_neg h h1
    exact wq_ret rfl (wkON h hT)
/-- X8_wordOfRow -/
def dk_182 (n : Nat) (F : wq_F) : Option (Nat × wq_F) :=
  (dk_8 n F).bind fun y1 =>
  if 2147483648 ≤ y1.1 then
    some (4294967295, y1.2)
  else
    if ev_s y1.1 < ev_s 21 then
      od_let ((y1.1 + (4294967296 - 0)) % 4294967296) fun y7 =>
      some (y7, y1.2)
    else
      some (4294967295, y1.2)
theorem dkT_182 {d n : Nat} {F : wq_F} (hT : xm_T F) {x : Nat × wq_F} (h : dk_182 n F = some x) : mq (d + 1 + 1) 182 [36893488147419103234] xm_sh F (wkI xm_T xm_sh x) := by
  have e : ev_ent [36893488147419103234] = [36893488147419103234] := by
    rfl
  refine mq_of (maxL := 2) (rt := (some .int)) (code := (ev_un al_mX8_wordOfRow.2.2.2.2)) (L := [36893488147419103234, 73786976294838206464]) rfl (by rw [e]; exact Nat.le_of_ble_eq_true rfl) (by rw [e]; rfl) ?_
  unfold dk_182 at h
  refine wq_aload_n rfl rfl rfl ?_
  obtain ⟨y1, e2, h⟩ := od_bindE h
  refine wd_virtI (q := 2) (y := y1) (as := [36893488147419103234]) rfl rfl rfl (by decide) (Nat.le_of_ble_eq_true rfl) (Nat.le_of_ble_eq_true rfl) rfl (Nat.le_of_ble_eq_true rfl) rfl (dkT_8 hT e2) (fun p3 T4 => ?_)
  refine wq_istore_n rfl p3 (Nat.le_of_ble_eq_true rfl) (Or.inr ⟨_, rfl, rfl⟩) (L' := [36893488147419103234, y1.1]) rfl ?_
  refine wq_iload_n rfl rfl p3 ?_
  refine wq_if_lt rfl rfl p3 (fun h5 => ?_) (fun h5 => ?_)
  · replace h := od_pos h h5
    refine wq_iconst rfl rfl ?_
    exact wq_iret rfl (by decide) rfl (wkOI h T4 (by decide))
  · replace h := od_neg h (Nat.not_le.mpr h5)
    refine wq_iload_n rfl rfl p3 ?_
    refine wq_bipush rfl rfl ?_
    refine wq_ic_ge rfl rfl p3 (by decide) (fun h6 => ?_) (fun h6 => ?_)
    · replace h := od_neg h (Nat.not_lt.mpr h6)
      refine wq_iconst rfl rfl ?_
      exact wq_iret rfl (by decide) rfl (wkOI h T4 (by decide))
    · replace h := od_pos h h6
      refine wq_iload_n rfl rfl p3 ?_
      refine wq_iconst rfl rfl ?_
      refine wq_isubZ rfl p3 (wm_zlt (by decide)) (z := (y1.1 + (4294967296 - 0)) % 4294967296) rfl ?_
      obtain ⟨y7, e8, h⟩ := od_letE h
      refine wq_top e8.symm ?_
      have p9 : y7 < 4294967296 := wd_lt e8 (Nat.mod_lt _ (by decide))
      refine wq_goto rfl rfl ?_
      exact wq_iret rfl p9 rfl (wkOI h T4 p9)
/-- X8_keepTextual -/
def dk_181 (n : Nat) (F : wq_F) : Option (Nat × wq_F) :=
  (dk_8 n F).bind fun y1 =>
  if y1.1 = 4294967295 then
    (dk_9 y1.2).bind fun y18 =>
    od_g (y18.1 < 3000) <|
    od_up y18.2 9 y18.1 ((ev_b8 3)) fun F23 =>
    od_up F23 2 11 (F23 2 8) fun F26 =>
    some (y18.1, F26)
  else
    od_g (y1.1 < 3000) <|
    if (y1.2 9 y1.1) = 2 then
      od_g (y1.1 < 3000) <|
      od_up y1.2 9 y1.1 ((ev_b8 3)) fun F12 =>
      od_up F12 2 11 (F12 2 8) fun F15 =>
      some (y1.1, F15)
    else
      od_up y1.2 2 11 (y1.2 2 8) fun F8 =>
      some (y1.1, F8)
theorem dkT_181 {d n : Nat} {F : wq_F} (hT : xm_T F) {x : Nat × wq_F} (h : dk_181 n F = some x) : mq (d + 1 + 1) 181 [36893488147419103234] xm_sh F (wkI xm_T xm_sh x) := by
  have e : ev_ent [36893488147419103234] = [36893488147419103234] := by
    rfl
  refine mq_of (maxL := 2) (rt := (some .int)) (code := (ev_un al_mX8_keepTextual.2.2.2.2)) (L := [36893488147419103234, 73786976294838206464]) rfl (by rw [e]; exact Nat.le_of_ble_eq_true rfl) (by rw [e]; rfl) ?_
  unfold dk_181 at h
  refine wq_aload_n rfl rfl rfl ?_
  obtain ⟨y1, e2, h⟩ := od_bindE h
  refine wd_virtI (q := 2) (y := y1) (as := [36893488147419103234]) rfl rfl rfl (by decide) (Nat.le_of_ble_eq_true rfl) (Nat.le_of_ble_eq_true rfl) rfl (Nat.le_of_ble_eq_true rfl) rfl (dkT_8 hT e2) (fun p3 T4 => ?_)
  refine wq_istore_n rfl p3 (Nat.le_of_ble_eq_true rfl) (Or.inr ⟨_, rfl, rfl⟩) (L' := [36893488147419103234, y1.1]) rfl ?_
  refine wq_iload_n rfl rfl p3 ?_
  refine wq_iconst rfl rfl ?_
  refine wq_ic_ne rfl rfl p3 (by decide) (fun h5 => ?_) (fun h5 => ?_)
  · replace h := od_neg h h5
    refine wq_aload_n rfl rfl rfl ?_
    refine xm_getR (v := 36893488147419103241) (q := 2) rfl rfl (by decide) (by decide) (T4.r (k := 2) 7 8 rfl (by decide) rfl) ?_
    refine wq_iload_n rfl rfl p3 ?_
    obtain ⟨g6, h⟩ := od_gE h
    refine wq_baload (q := 9) (n := 3000) rfl rfl (by decide) g6 (by decide) ?_
    refine wq_iconst rfl rfl ?_
    refine wq_ic_ne rfl rfl (T4.ab (k := 9) rfl g6) (by decide) (fun h7 => ?_) (fun h7 => ?_)
    · replace h := od_neg h h7
      refine wq_aload_n rfl rfl rfl ?_
      refine wq_aload_n rfl rfl rfl ?_
      refine xm_getI (q := 2) rfl rfl (by decide) (by decide) ?_
      obtain ⟨F8, e9, h⟩ := od_upE h
      refine xmE_put (q := 2) rfl rfl (by decide) (by decide) (wq_I (T4.i (k := 2) 8 rfl (by decide) rfl)) e9 ?_
      have T10 : xm_T F8 := wd_T e9 (T4.uf (k := 2) (f := 11) (c := 0) (v := y1.2 2 8) rfl (by decide) rfl (show y1.2 2 8 < 4294967296 from (T4.i (k := 2) 8 rfl (by decide) rfl)))
      refine wq_iload_n rfl rfl p3 ?_
      exact wq_iret rfl p3 rfl (wkOI h T10 p3)
    · replace h := od_pos h h7
      refine wq_aload_n rfl rfl rfl ?_
      refine xm_getR (v := 36893488147419103241) (q := 2) rfl rfl (by decide) (by decide) (T4.r (k := 2) 7 8 rfl (by decide) rfl) ?_
      refine wq_iload_n rfl rfl p3 ?_
      refine wq_iconst rfl rfl ?_
      obtain ⟨g11, h⟩ := od_gE h
      obtain ⟨F12, e13, h⟩ := od_upE h
      refine wd_bastore (q := 9) (n := 3000) rfl rfl (by decide) g11 (by decide) (by decide) e13 ?_
      have T14 : xm_T F12 := wd_T e13 (T4.ua (k := 9) (kd := 1001) (n := 3000) (i := y1.1) (v := (ev_b8 3)) rfl (by decide) g11 ⟨ev_b8_lt _, wm_b8b8 _⟩)
      refine wq_aload_n rfl rfl rfl ?_
      refine wq_aload_n rfl rfl rfl ?_
      refine xm_getI (q := 2) rfl rfl (by decide) (by decide) ?_
      obtain ⟨F15, e16, h⟩ := od_upE h
      refine xmE_put (q := 2) rfl rfl (by decide) (by decide) (wq_I (T14.i (k := 2) 8 rfl (by decide) rfl)) e16 ?_
      have T17 : xm_T F15 := wd_T e16 (T14.uf (k := 2) (f := 11) (c := 0) (v := F12 2 8) rfl (by decide) rfl (show F12 2 8 < 4294967296 from (T14.i (k := 2) 8 rfl (by decide) rfl)))
      refine wq_iload_n rfl rfl p3 ?_
      exact wq_iret rfl p3 rfl (wkOI h T17 p3)
  · replace h := od_pos h h5
    refine wq_aload_n rfl rfl rfl ?_
    obtain ⟨y18, e19, h⟩ := od_bindE h
    refine wd_virtI (q := 2) (y := y18) (as := [36893488147419103234]) rfl rfl rfl (by decide) (Nat.le_of_ble_eq_true rfl) (Nat.le_of_ble_eq_true rfl) rfl (Nat.le_of_ble_eq_true rfl) rfl (dkT_9 T4 e19) (fun p20 T21 => ?_)
    refine wq_istore_n rfl p20 (Nat.le_of_ble_eq_true rfl) (Or.inr ⟨_, rfl, rfl⟩) (L' := [36893488147419103234, y18.1]) rfl ?_
    refine wq_aload_n rfl rfl rfl ?_
    refine xm_getR (v := 36893488147419103241) (q := 2) rfl rfl (by decide) (by decide) (T21.r (k := 2) 7 8 rfl (by decide) rfl) ?_
    refine wq_iload_n rfl rfl p20 ?_
    refine wq_iconst rfl rfl ?_
    obtain ⟨g22, h⟩ := od_gE h
    obtain ⟨F23, e24, h⟩ := od_upE h
    refine wd_bastore (q := 9) (n := 3000) rfl rfl (by decide) g22 (by decide) (by decide) e24 ?_
    have T25 : xm_T F23 := wd_T e24 (T21.ua (k := 9) (kd := 1001) (n := 3000) (i := y18.1) (v := (ev_b8 3)) rfl (by decide) g22 ⟨ev_b8_lt _, wm_b8b8 _⟩)
    refine wq_goto rfl rfl ?_
    refine wq_aload_n rfl rfl rfl ?_
    refine wq_aload_n rfl rfl rfl ?_
    refine xm_getI (q := 2) rfl rfl (by decide) (by decide) ?_
    obtain ⟨F26, e27, h⟩ := od_upE h
    refine xmE_put (q := 2) rfl rfl (by decide) (by decide) (wq_I (T25.i (k := 2) 8 rfl (by decide) rfl)) e27 ?_
    have T28 : xm_T F26 := wd_T e27 (T25.uf (k := 2) (f := 11) (c := 0) (v := F23 2 8) rfl (by decide) rfl (show F23 2 8 < 4294967296 from (T25.i (k := 2) 8 rfl (by decide) rfl)))
    refine wq_iload_n rfl rfl p20 ?_
    exact wq_iret rfl p20 rfl (wkOI h T28 p20)
def dk_190_63 (n : Nat) (F : wq_F) (v1 : Nat) : Option (Nat × wq_F) :=
  od_up F 57 3 v1 fun F1 =>
  (dk_182 n F1).bind fun y4 =>
  if y4.1 = 4294967295 then
    od_let (((y4.2 57 3) + (4294967296 - (y4.2 57 5))) % 4294967296) fun y9 =>
    if ev_s 30 < ev_s y9 then
      od_up y4.2 57 4 1 fun F23 =>
      some (0, F23)
    else
      od_up y4.2 57 4 2 fun F13 =>
      (dk_181 n F13).bind fun y16 =>
      od_up y16.2 57 8 (ev_oI2l y16.1) fun F20 =>
      some (0, F20)
  else
    od_up y4.2 57 4 ((10 + y4.1) % 4294967296) fun F26 =>
    some (0, F26)
theorem dk_190_63T {d n : Nat} : ∀ ⦃F : wq_F⦄ (hT : xm_T F) ⦃v1 : Nat⦄ (hv1 : v1 < 4294967296) ⦃x : Nat × wq_F⦄ (h : dk_190_63 n F v1 = some x), wq (wq_cf (d + 2)) (ev_un al_mX10_scanName.2.2.2.2) none 63 [36893488147419103289, v1, 73786976294838206464] [] xm_sh F 0 0 (wkN xm_T xm_sh x) := by
  intro F hT v1 hv1 x h
  unfold dk_190_63 at h
  refine wq_aload_n rfl rfl rfl ?_
  refine wq_iload_n rfl rfl hv1 ?_
  obtain ⟨F1, e2, h⟩ := od_upE h
  refine xmE_put (q := 57) rfl rfl (by decide) (by decide) (wq_I hv1) e2 ?_
  have T3 : xm_T F1 := wd_T e2 (hT.uf (k := 57) (f := 3) (c := 0) (v := v1) rfl (by decide) rfl (show v1 < 4294967296 from hv1))
  refine wq_aload_n rfl rfl rfl ?_
  refine xm_getR (v := 36893488147419103234) (q := 57) rfl rfl (by decide) (by decide) (T3.r (k := 57) 1 1 rfl (by decide) rfl) ?_
  obtain ⟨y4, e5, h⟩ := od_bindE h
  refine wd_virtI (q := 2) (y := y4) (as := [36893488147419103234]) rfl rfl rfl (by decide) (Nat.le_of_ble_eq_true rfl) (Nat.le_of_ble_eq_true rfl) rfl (Nat.le_of_ble_eq_true rfl) rfl (dkT_182 T3 e5) (fun p6 T7 => ?_)
  refine wq_istore_n rfl p6 (Nat.le_of_ble_eq_true rfl) (Or.inr ⟨_, rfl, (wq_notL hv1)⟩) (L' := [36893488147419103289, v1, y4.1]) rfl ?_
  refine wq_iload_n rfl rfl p6 ?_
  refine wq_iconst rfl rfl ?_
  refine wq_ic_eq rfl rfl p6 (by decide) (fun h8 => ?_) (fun h8 => ?_)
  · replace h := od_pos h h8
    refine wq_aload_n rfl rfl rfl ?_
    refine xm_getI (q := 57) rfl rfl (by decide) (by decide) ?_
    refine wq_aload_n rfl rfl rfl ?_
    refine xm_getI (q := 57) rfl rfl (by decide) (by decide) ?_
    refine wq_isubZ rfl (T7.i (k := 57) 3 rfl (by decide) rfl) (T7.i (k := 57) 5 rfl (by decide) rfl) (z := ((y4.2 57 3) + (4294967296 - (y4.2 57 5))) % 4294967296) rfl ?_
    obtain ⟨y9, e10, h⟩ := od_letE h
    refine wq_top e10.symm ?_
    have p11 : y9 < 4294967296 := wd_lt e10 (Nat.mod_lt _ (by decide))
    refine wq_bipush rfl rfl ?_
    refine wq_ic_le rfl rfl p11 (by decide) (fun h12 => ?_) (fun h12 => ?_)
    · replace h := od_neg h (Nat.not_lt.mpr h12)
      refine wq_aload_n rfl rfl rfl ?_
      refine wq_iconst rfl rfl ?_
      obtain ⟨F13, e14, h⟩ := od_upE h
      refine xmE_put (q := 57) rfl rfl (by decide) (by decide) (wq_I (by decide)) e14 ?_
      have T15 : xm_T F13 := wd_T e14 (T7.uf (k := 57) (f := 4) (c := 0) (v := 2) rfl (by decide) rfl (show 2 < 4294967296 from (by decide)))
      refine wq_aload_n rfl rfl rfl ?_
      refine wq_aload_n rfl rfl rfl ?_
      refine xm_getR (v := 36893488147419103234) (q := 57) rfl rfl (by decide) (by decide) (T15.r (k := 57) 1 1 rfl (by decide) rfl) ?_
      obtain ⟨y16, e17, h⟩ := od_bindE h
      refine wd_virtI (q := 2) (y := y16) (as := [36893488147419103234]) rfl rfl rfl (by decide) (Nat.le_of_ble_eq_true rfl) (Nat.le_of_ble_eq_true rfl) rfl (Nat.le_of_ble_eq_true rfl) rfl (dkT_181 T15 e17) (fun p18 T19 => ?_)
      refine wq_i2l rfl p18 ?_
      obtain ⟨F20, e21, h⟩ := od_upE h
      refine xmE_put (q := 57) rfl rfl (by decide) (by decide) (wq_i2l_L p18) e21 ?_
      have T22 : xm_T F20 := wd_T e21 (T19.uf (k := 57) (f := 8) (c := 10) (v := ev_oI2l y16.1) rfl (by decide) rfl (show ev_isL (ev_oI2l y16.1) = true from (wq_i2l_L p18)))
      exact wq_ret rfl (wkON h T22)
    · replace h := od_pos h h12
      refine wq_aload_n rfl rfl rfl ?_
      refine wq_iconst rfl rfl ?_
      obtain ⟨F23, e24, h⟩ := od_upE h
      refine xmE_put (q := 57) rfl rfl (by decide) (by decide) (wq_I (wm_zlt (by decide))) e24 ?_
      have T25 : xm_T F23 := wd_T e24 (T7.uf (k := 57) (f := 4) (c := 0) (v := 1) rfl (by decide) rfl (show 1 < 4294967296 from (wm_zlt (by decide))))
      refine wq_goto rfl rfl ?_
      exact wq_ret rfl (wkON h T25)
  · replace h := od_neg h h8
    refine wq_aload_n rfl rfl rfl ?_
    refine wq_bipush rfl rfl ?_
    refine wq_iload_n rfl rfl p6 ?_
    refine wq_iaddZ rfl (by decide) p6 (z := (10 + y4.1) % 4294967296) rfl ?_
    obtain ⟨F26, e27, h⟩ := od_upE h
    refine xmE_put (q := 57) rfl rfl (by decide) (by decide) (wq_I (Nat.mod_lt _ (by decide))) e27 ?_
    have T28 : xm_T F26 := wd_T e27 (T7.uf (k := 57) (f := 4) (c := 0) (v := (10 + y4.1) % 4294967296) rfl (by decide) rfl (show (10 + y4.1) % 4294967296 < 4294967296 from (Nat.mod_lt _ (by decide))))
    refine wq_goto rfl rfl ?_
    exact wq_ret rfl (wkON h T28)
def dk_190_12b (n : Nat) (r12 : wq_F → Nat → Option (Nat × wq_F)) (F : wq_F) (v1 : Nat) : Option (Nat × wq_F) :=
  if ev_s v1 < ev_s (F 57 2) then
    od_g (v1 < 6000) <|
    (dk_188 F (F 1 v1)).bind fun y3 =>
    if y3.1 = 0 then
      od_g (v1 < 6000) <|
      (dk_187 y3.2 (y3.2 1 v1)).bind fun y17 =>
      if y17.1 = 0 then
        dk_190_63 n y17.2 v1
      else
        od_g (v1 < 6000) <|
        (dk_0 y17.2 (y17.2 1 v1)).bind fun y23 =>
        od_let ((v1 + 1) % 4294967296) fun y27 =>
        r12 y23.2 y27
    else
      od_g (v1 < 6000) <|
      (dk_0 y3.2 (y3.2 1 v1)).bind fun y9 =>
      od_let ((v1 + 1) % 4294967296) fun y13 =>
      r12 y9.2 y13
  else
    dk_190_63 n F v1
theorem dk_190_12bT {d n : Nat} {r12 : wq_F → Nat → Option (Nat × wq_F)} (hr12 : ∀ ⦃F : wq_F⦄ (hT : xm_T F) ⦃v1 : Nat⦄ (hv1 : v1 < 4294967296) ⦃x : Nat × wq_F⦄ (h : r12 F v1 = some x), wq (wq_cf (d + 2)) (ev_un al_mX10_scanName.2.2.2.2) none 12 [36893488147419103289, v1, 73786976294838206464] [] xm_sh F 0 0 (wkN xm_T xm_sh x)) : ∀ ⦃F : wq_F⦄ (hT : xm_T F) ⦃v1 : Nat⦄ (hv1 : v1 < 4294967296) ⦃x : Nat × wq_F⦄ (h : dk_190_12b n r12 F v1 = some x), wq (wq_cf (d + 2)) (ev_un al_mX10_scanName.2.2.2.2) none 12 [36893488147419103289, v1, 73786976294838206464] [] xm_sh F 0 0 (wkN xm_T xm_sh x) := by
  intro F hT v1 hv1 x h
  unfold dk_190_12b at h
  refine wq_iload_n rfl rfl hv1 ?_
  refine wq_aload_n rfl rfl rfl ?_
  refine xm_getI (q := 57) rfl rfl (by decide) (by decide) ?_
  refine wq_ic_ge rfl rfl hv1 (hT.i (k := 57) 2 rfl (by decide) rfl) (fun h1 => ?_) (fun h1 => ?_)
  · replace h := od_neg h (Nat.not_lt.mpr h1)
    exact dk_190_63T hT hv1 h
  · replace h := od_pos h h1
    refine wq_aload_n rfl rfl rfl ?_
    refine xm_getR (v := 36893488147419103233) (q := 57) rfl rfl (by decide) (by decide) (hT.r (k := 57) 0 0 rfl (by decide) rfl) ?_
    refine wq_iload_n rfl rfl hv1 ?_
    obtain ⟨g2, h⟩ := od_gE h
    refine wq_baload (q := 1) (n := 6000) rfl rfl (by decide) g2 (by decide) ?_
    obtain ⟨y3, e4, h⟩ := od_bindE h
    refine wd_statZ (y := y3) (as := [F 1 v1]) rfl (by decide) (Nat.le_of_ble_eq_true rfl) rfl (Nat.le_of_ble_eq_true rfl) rfl (dkT_188 hT (hT.ab (k := 1) rfl g2) e4) (fun p5 T6 => ?_)
    refine wq_if_ne rfl rfl (wm_zlt p5) (fun h7 => ?_) (fun h7 => ?_)
    · replace h := od_neg h h7
      refine wq_aload_n rfl rfl rfl ?_
      refine xm_getR (v := 36893488147419103234) (q := 57) rfl rfl (by decide) (by decide) (T6.r (k := 57) 1 1 rfl (by decide) rfl) ?_
      refine wq_aload_n rfl rfl rfl ?_
      refine xm_getR (v := 36893488147419103233) (q := 57) rfl rfl (by decide) (by decide) (T6.r (k := 57) 0 0 rfl (by decide) rfl) ?_
      refine wq_iload_n rfl rfl hv1 ?_
      obtain ⟨g8, h⟩ := od_gE h
      refine wq_baload (q := 1) (n := 6000) rfl rfl (by decide) g8 (by decide) ?_
      obtain ⟨y9, e10, h⟩ := od_bindE h
      refine wd_virtN (q := 2) (y := y9) (as := [36893488147419103234, y3.2 1 v1]) rfl rfl rfl (by decide) (Nat.le_of_ble_eq_true rfl) (Nat.le_of_ble_eq_true rfl) rfl (Nat.le_of_ble_eq_true rfl) rfl (dkT_0 T6 (T6.ab (k := 1) rfl g8) e10) (fun T12 => ?_)
      obtain ⟨y13, e14, h⟩ := od_letE h
      have p15 : y13 < 4294967296 := wd_lt e14 (Nat.mod_lt _ (by decide))
      refine wq_iincZ rfl rfl hv1 (Or.inr ⟨_, rfl, rfl⟩) rfl (z := y13) e14.symm (L' := [36893488147419103289, y13, 73786976294838206464]) rfl ?_
      refine wq_goto rfl rfl ?_
      exact hr12 T12 p15 h
    · replace h := od_pos h h7
      refine wq_aload_n rfl rfl rfl ?_
      refine xm_getR (v := 36893488147419103233) (q := 57) rfl rfl (by decide) (by decide) (T6.r (k := 57) 0 0 rfl (by decide) rfl) ?_
      refine wq_iload_n rfl rfl hv1 ?_
      obtain ⟨g16, h⟩ := od_gE h
      refine wq_baload (q := 1) (n := 6000) rfl rfl (by decide) g16 (by decide) ?_
      obtain ⟨y17, e18, h⟩ := od_bindE h
      refine wd_statZ (y := y17) (as := [y3.2 1 v1]) rfl (by decide) (Nat.le_of_ble_eq_true rfl) rfl (Nat.le_of_ble_eq_true rfl) rfl (dkT_187 T6 (T6.ab (k := 1) rfl g16) e18) (fun p19 T20 => ?_)
      refine wq_if_eq rfl rfl (wm_zlt p19) (fun h21 => ?_) (fun h21 => ?_)
      · replace h := od_pos h h21
        exact dk_190_63T T20 hv1 h
      · replace h := od_neg h h21
        refine wq_aload_n rfl rfl rfl ?_
        refine xm_getR (v := 36893488147419103234) (q := 57) rfl rfl (by decide) (by decide) (T20.r (k := 57) 1 1 rfl (by decide) rfl) ?_
        refine wq_aload_n rfl rfl rfl ?_
        refine xm_getR (v := 36893488147419103233) (q := 57) rfl rfl (by decide) (by decide) (T20.r (k := 57) 0 0 rfl (by decide) rfl) ?_
        refine wq_iload_n rfl rfl hv1 ?_
        obtain ⟨g22, h⟩ := od_gE h
        refine wq_baload (q := 1) (n := 6000) rfl rfl (by decide) g22 (by decide) ?_
        obtain ⟨y23, e24, h⟩ := od_bindE h
        refine wd_virtN (q := 2) (y := y23) (as := [36893488147419103234, y17.2 1 v1]) rfl rfl rfl (by decide) (Nat.le_of_ble_eq_true rfl) (Nat.le_of_ble_eq_true rfl) rfl (Nat.le_of_ble_eq_true rfl) rfl (dkT_0 T20 (T20.ab (k := 1) rfl g22) e24) (fun T26 => ?_)
        obtain ⟨y27, e28, h⟩ := od_letE h
        have p29 : y27 < 4294967296 := wd_lt e28 (Nat.mod_lt _ (by decide))
        refine wq_iincZ rfl rfl hv1 (Or.inr ⟨_, rfl, rfl⟩) rfl (z := y27) e28.symm (L' := [36893488147419103289, y27, 73786976294838206464]) rfl ?_
        refine wq_goto rfl rfl ?_
        exact hr12 T26 p29 h
def dk_190_12 (n : Nat) : Nat → wq_F → Nat → Option (Nat × wq_F)
  | 0 => fun _ _ => none
  | g + 1 => dk_190_12b n (dk_190_12 n g)
theorem dk_190_12T {d n : Nat} : ∀ g : Nat, ∀ ⦃F : wq_F⦄ (hT : xm_T F) ⦃v1 : Nat⦄ (hv1 : v1 < 4294967296) ⦃x : Nat × wq_F⦄ (h : dk_190_12 n g F v1 = some x), wq (wq_cf (d + 2)) (ev_un al_mX10_scanName.2.2.2.2) none 12 [36893488147419103289, v1, 73786976294838206464] [] xm_sh F 0 0 (wkN xm_T xm_sh x)
  | 0 => by
    intro F hT v1 hv1 x h
    cases h
  | g + 1 => dk_190_12bT (dk_190_12T g)
/-- X10_scanName -/
def dk_190 (n : Nat) (F : wq_F) : Option (Nat × wq_F) :=
  (dk_10 F).bind fun y1 =>
  dk_190_12 n n y1.2 (F 57 5)
theorem dkT_190 {d n : Nat} {F : wq_F} (hT : xm_T F) {x : Nat × wq_F} (h : dk_190 n F = some x) : mq (d + 2 + 1) 190 [36893488147419103289] xm_sh F (wkN xm_T xm_sh x) := by
  have e : ev_ent [36893488147419103289] = [36893488147419103289] := by
    rfl
  refine mq_of (maxL := 3) (rt := none) (code := (ev_un al_mX10_scanName.2.2.2.2)) (L := [36893488147419103289, 73786976294838206464, 73786976294838206464]) rfl (by rw [e]; exact Nat.le_of_ble_eq_true rfl) (by rw [e]; rfl) ?_
  unfold dk_190 at h
  refine wq_aload_n rfl rfl rfl ?_
  refine xm_getI (q := 57) rfl rfl (by decide) (by decide) ?_
  refine wq_istore_n rfl (hT.i (k := 57) 5 rfl (by decide) rfl) (Nat.le_of_ble_eq_true rfl) (Or.inr ⟨_, rfl, rfl⟩) (L' := [36893488147419103289, F 57 5, 73786976294838206464]) rfl ?_
  refine wq_aload_n rfl rfl rfl ?_
  refine xm_getR (v := 36893488147419103234) (q := 57) rfl rfl (by decide) (by decide) (hT.r (k := 57) 1 1 rfl (by decide) rfl) ?_
  obtain ⟨y1, e2, h⟩ := od_bindE h
  refine wd_virtN (q := 2) (y := y1) (as := [36893488147419103234]) rfl rfl rfl (by decide) (Nat.le_of_ble_eq_true rfl) (Nat.le_of_ble_eq_true rfl) rfl (Nat.le_of_ble_eq_true rfl) rfl (dkT_10 hT e2) (fun T4 => ?_)
  exact dk_190_12T n T4 (hT.i (k := 57) 5 rfl (by decide) rfl) h
def dk_193_18 (n : Nat) (F : wq_F) (v2 : Nat) : Option (Nat × wq_F) :=
  if v2 = 110 then
    (dk_0 F 10).bind fun y6 =>
    some (1, y6.2)
  else
    (dk_0 F 9).bind fun y2 =>
    some (1, y2.2)
theorem dk_193_18T {d n : Nat} : ∀ ⦃u1 : Nat⦄ ⦃F : wq_F⦄ (hT : xm_T F) ⦃v2 : Nat⦄ (hv2 : v2 < 4294967296) (hu1 : ev_isL u1 = false) ⦃x : Nat × wq_F⦄ (h : dk_193_18 n F v2 = some x), wq (wq_cf (d + 1)) (ev_un al_mX10_escape.2.2.2.2) (some .int) 18 [36893488147419103289, u1, v2, 73786976294838206464, 73786976294838206464] [] xm_sh F 0 0 (wkI xm_T xm_sh x) := by
  intro u1 F hT v2 hv2 hu1 x h
  unfold dk_193_18 at h
  refine wq_aload_n rfl rfl rfl ?_
  refine xm_getR (v := 36893488147419103234) (q := 57) rfl rfl (by decide) (by decide) (hT.r (k := 57) 1 1 rfl (by decide) rfl) ?_
  refine wq_iload_n rfl rfl hv2 ?_
  refine wq_bipush rfl rfl ?_
  refine wq_ic_ne rfl rfl hv2 (by decide) (fun h1 => ?_) (fun h1 => ?_)
  · replace h := od_neg h h1
    refine wq_bipush rfl rfl ?_
    obtain ⟨y2, e3, h⟩ := od_bindE h
    refine wd_virtN (q := 2) (y := y2) (as := [36893488147419103234, 9]) rfl rfl rfl (by decide) (Nat.le_of_ble_eq_true rfl) (Nat.le_of_ble_eq_true rfl) rfl (Nat.le_of_ble_eq_true rfl) rfl (dkT_0 hT (by decide) e3) (fun T5 => ?_)
    refine wq_iconst rfl rfl ?_
    exact wq_iret rfl (wm_zlt (by decide)) rfl (wkOI h T5 (wm_zlt (by decide)))
  · replace h := od_pos h h1
    refine wq_bipush rfl rfl ?_
    refine wq_goto rfl rfl ?_
    obtain ⟨y6, e7, h⟩ := od_bindE h
    refine wd_virtN (q := 2) (y := y6) (as := [36893488147419103234, 10]) rfl rfl rfl (by decide) (Nat.le_of_ble_eq_true rfl) (Nat.le_of_ble_eq_true rfl) rfl (Nat.le_of_ble_eq_true rfl) rfl (dkT_0 hT (by decide) e7) (fun T9 => ?_)
    refine wq_iconst rfl rfl ?_
    exact wq_iret rfl (wm_zlt (by decide)) rfl (wkOI h T9 (wm_zlt (by decide)))
def dk_193_115 (n : Nat) (F : wq_F) (v3 : Nat) (v4 : Nat) : Option (Nat × wq_F) :=
  (dk_0 F v4).bind fun y1 =>
  if ev_s 255 < ev_s v4 then
    some (0, y1.2)
  else
    some (v3, y1.2)
theorem dk_193_115T {d n : Nat} : ∀ ⦃u1 : Nat⦄ ⦃u2 : Nat⦄ ⦃F : wq_F⦄ (hT : xm_T F) ⦃v3 : Nat⦄ (hv3 : v3 < 4294967296) ⦃v4 : Nat⦄ (hv4 : v4 < 4294967296) (hu1 : ev_isL u1 = false) (hu2 : ev_isL u2 = false) ⦃x : Nat × wq_F⦄ (h : dk_193_115 n F v3 v4 = some x), wq (wq_cf (d + 1)) (ev_un al_mX10_escape.2.2.2.2) (some .int) 115 [36893488147419103289, u1, u2, v3, v4] [] xm_sh F 0 0 (wkI xm_T xm_sh x) := by
  intro u1 u2 F hT v3 hv3 v4 hv4 hu1 hu2 x h
  unfold dk_193_115 at h
  refine wq_aload_n rfl rfl rfl ?_
  refine xm_getR (v := 36893488147419103234) (q := 57) rfl rfl (by decide) (by decide) (hT.r (k := 57) 1 1 rfl (by decide) rfl) ?_
  refine wq_iload rfl rfl hv4 ?_
  obtain ⟨y1, e2, h⟩ := od_bindE h
  refine wd_virtN (q := 2) (y := y1) (as := [36893488147419103234, v4]) rfl rfl rfl (by decide) (Nat.le_of_ble_eq_true rfl) (Nat.le_of_ble_eq_true rfl) rfl (Nat.le_of_ble_eq_true rfl) rfl (dkT_0 hT hv4 e2) (fun T4 => ?_)
  refine wq_iload rfl rfl hv4 ?_
  refine wq_sipush rfl rfl ?_
  refine wq_ic_le rfl rfl hv4 (by decide) (fun h5 => ?_) (fun h5 => ?_)
  · replace h := od_neg h (Nat.not_lt.mpr h5)
    refine wq_iload_n rfl rfl hv3 ?_
    exact wq_iret rfl hv3 rfl (wkOI h T4 hv3)
  · replace h := od_pos h h5
    refine wq_iconst rfl rfl ?_
    refine wq_goto rfl rfl ?_
    exact wq_iret rfl (wm_zlt (by decide)) rfl (wkOI h T4 (wm_zlt (by decide)))
def dk_193_73b (n : Nat) (r73 : wq_F → Nat → Nat → Nat → Option (Nat × wq_F)) (F : wq_F) (v1 : Nat) (v3 : Nat) (v4 : Nat) : Option (Nat × wq_F) :=
  if ev_s v3 < ev_s 3 then
    (dk_186 F ((v1 + v3) % 4294967296)).bind fun y2 =>
    (dk_187 y2.2 y2.1).bind fun y6 =>
    if y6.1 = 0 then
      dk_193_115 n y6.2 v3 v4
    else
      (dk_186 y6.2 ((v1 + v3) % 4294967296)).bind fun y11 =>
      od_let (((ev_oMul v4 10) + y11.1) % 4294967296) fun y15 =>
      od_let ((y15 + (4294967296 - 48)) % 4294967296) fun y18 =>
      od_let ((v3 + 1) % 4294967296) fun y21 =>
      r73 y11.2 v1 y21 y18
  else
    dk_193_115 n F v3 v4
theorem dk_193_73bT {d n : Nat} {r73 : wq_F → Nat → Nat → Nat → Option (Nat × wq_F)} (hr73 : ∀ ⦃u2 : Nat⦄ ⦃F : wq_F⦄ (hT : xm_T F) ⦃v1 : Nat⦄ (hv1 : v1 < 4294967296) ⦃v3 : Nat⦄ (hv3 : v3 < 4294967296) ⦃v4 : Nat⦄ (hv4 : v4 < 4294967296) (hu2 : ev_isL u2 = false) ⦃x : Nat × wq_F⦄ (h : r73 F v1 v3 v4 = some x), wq (wq_cf (d + 1)) (ev_un al_mX10_escape.2.2.2.2) (some .int) 73 [36893488147419103289, v1, u2, v3, v4] [] xm_sh F 0 0 (wkI xm_T xm_sh x)) : ∀ ⦃u2 : Nat⦄ ⦃F : wq_F⦄ (hT : xm_T F) ⦃v1 : Nat⦄ (hv1 : v1 < 4294967296) ⦃v3 : Nat⦄ (hv3 : v3 < 4294967296) ⦃v4 : Nat⦄ (hv4 : v4 < 4294967296) (hu2 : ev_isL u2 = false) ⦃x : Nat × wq_F⦄ (h : dk_193_73b n r73 F v1 v3 v4 = some x), wq (wq_cf (d + 1)) (ev_un al_mX10_escape.2.2.2.2) (some .int) 73 [36893488147419103289, v1, u2, v3, v4] [] xm_sh F 0 0 (wkI xm_T xm_sh x) := by
  intro u2 F hT v1 hv1 v3 hv3 v4 hv4 hu2 x h
  unfold dk_193_73b at h
  refine wq_iload_n rfl rfl hv3 ?_
  refine wq_iconst rfl rfl ?_
  refine wq_ic_ge rfl rfl hv3 (by decide) (fun h1 => ?_) (fun h1 => ?_)
  · replace h := od_neg h (Nat.not_lt.mpr h1)
    exact dk_193_115T hT hv3 hv4 (wq_notL hv1) hu2 h
  · replace h := od_pos h h1
    refine wq_aload_n rfl rfl rfl ?_
    refine wq_iload_n rfl rfl hv1 ?_
    refine wq_iload_n rfl rfl hv3 ?_
    refine wq_iaddZ rfl hv1 hv3 (z := (v1 + v3) % 4294967296) rfl ?_
    obtain ⟨y2, e3, h⟩ := od_bindE h
    refine wd_virtI (q := 57) (y := y2) (as := [36893488147419103289, (v1 + v3) % 4294967296]) rfl rfl rfl (by decide) (Nat.le_of_ble_eq_true rfl) (Nat.le_of_ble_eq_true rfl) rfl (Nat.le_of_ble_eq_true rfl) rfl (dkT_186 hT (Nat.mod_lt _ (by decide)) e3) (fun p4 T5 => ?_)
    obtain ⟨y6, e7, h⟩ := od_bindE h
    refine wd_statZ (y := y6) (as := [y2.1]) rfl (by decide) (Nat.le_of_ble_eq_true rfl) rfl (Nat.le_of_ble_eq_true rfl) rfl (dkT_187 T5 p4 e7) (fun p8 T9 => ?_)
    refine wq_if_eq rfl rfl (wm_zlt p8) (fun h10 => ?_) (fun h10 => ?_)
    · replace h := od_pos h h10
      exact dk_193_115T T9 hv3 hv4 (wq_notL hv1) hu2 h
    · replace h := od_neg h h10
      refine wq_iload rfl rfl hv4 ?_
      refine wq_bipush rfl rfl ?_
      refine wq_imul rfl hv4 (by decide) ?_
      refine wq_aload_n rfl rfl rfl ?_
      refine wq_iload_n rfl rfl hv1 ?_
      refine wq_iload_n rfl rfl hv3 ?_
      refine wq_iaddZ rfl hv1 hv3 (z := (v1 + v3) % 4294967296) rfl ?_
      obtain ⟨y11, e12, h⟩ := od_bindE h
      refine wd_virtI (q := 57) (y := y11) (as := [36893488147419103289, (v1 + v3) % 4294967296]) rfl rfl rfl (by decide) (Nat.le_of_ble_eq_true rfl) (Nat.le_of_ble_eq_true rfl) rfl (Nat.le_of_ble_eq_true rfl) rfl (dkT_186 T9 (Nat.mod_lt _ (by decide)) e12) (fun p13 T14 => ?_)
      refine wq_iaddZ rfl (Nat.mod_lt _ (by decide)) p13 (z := ((ev_oMul v4 10) + y11.1) % 4294967296) rfl ?_
      obtain ⟨y15, e16, h⟩ := od_letE h
      refine wq_top e16.symm ?_
      have p17 : y15 < 4294967296 := wd_lt e16 (Nat.mod_lt _ (by decide))
      refine wq_bipush rfl rfl ?_
      refine wq_isubZ rfl p17 (by decide) (z := (y15 + (4294967296 - 48)) % 4294967296) rfl ?_
      obtain ⟨y18, e19, h⟩ := od_letE h
      refine wq_top e19.symm ?_
      have p20 : y18 < 4294967296 := wd_lt e19 (Nat.mod_lt _ (by decide))
      refine wq_istore rfl p20 (Nat.le_of_ble_eq_true rfl) (Or.inr ⟨_, rfl, (wq_notL hv3)⟩) (L' := [36893488147419103289, v1, u2, v3, y18]) rfl ?_
      obtain ⟨y21, e22, h⟩ := od_letE h
      have p23 : y21 < 4294967296 := wd_lt e22 (Nat.mod_lt _ (by decide))
      refine wq_iincZ rfl rfl hv3 (Or.inr ⟨_, rfl, hu2⟩) rfl (z := y21) e22.symm (L' := [36893488147419103289, v1, u2, y21, y18]) rfl ?_
      refine wq_goto rfl rfl ?_
      exact hr73 T14 hv1 p23 p20 hu2 h
def dk_193_73 (n : Nat) : Nat → wq_F → Nat → Nat → Nat → Option (Nat × wq_F)
  | 0 => fun _ _ _ _ => none
  | g + 1 => dk_193_73b n (dk_193_73 n g)
theorem dk_193_73T {d n : Nat} : ∀ g : Nat, ∀ ⦃u2 : Nat⦄ ⦃F : wq_F⦄ (hT : xm_T F) ⦃v1 : Nat⦄ (hv1 : v1 < 4294967296) ⦃v3 : Nat⦄ (hv3 : v3 < 4294967296) ⦃v4 : Nat⦄ (hv4 : v4 < 4294967296) (hu2 : ev_isL u2 = false) ⦃x : Nat × wq_F⦄ (h : dk_193_73 n g F v1 v3 v4 = some x), wq (wq_cf (d + 1)) (ev_un al_mX10_escape.2.2.2.2) (some .int) 73 [36893488147419103289, v1, u2, v3, v4] [] xm_sh F 0 0 (wkI xm_T xm_sh x)
  | 0 => by
    intro u2 F hT v1 hv1 v3 hv3 v4 hv4 hu2 x h
    cases h
  | g + 1 => dk_193_73bT (dk_193_73T g)
/-- X10_escape -/
def dk_193 (n : Nat) (F : wq_F) (a0 : Nat) : Option (Nat × wq_F) :=
  (dk_186 F a0).bind fun y1 =>
  if y1.1 = 110 then
    dk_193_18 n y1.2 y1.1
  else
    if y1.1 = 116 then
      dk_193_18 n y1.2 y1.1
    else
      if y1.1 = 92 then
        (dk_0 y1.2 y1.1).bind fun y8 =>
        some (1, y8.2)
      else
        if y1.1 = 34 then
          (dk_0 y1.2 y1.1).bind fun y13 =>
          some (1, y13.2)
        else
          if y1.1 = 39 then
            (dk_0 y1.2 y1.1).bind fun y18 =>
            some (1, y18.2)
          else
            dk_193_73 n n y1.2 a0 0 0
theorem dkT_193 {d n : Nat} {F : wq_F} (hT : xm_T F) {a0 : Nat} (ha0 : a0 < 4294967296) {x : Nat × wq_F} (h : dk_193 n F a0 = some x) : mq (d + 1 + 1) 193 [36893488147419103289, a0] xm_sh F (wkI xm_T xm_sh x) := by
  have e : ev_ent [36893488147419103289, a0] = [36893488147419103289, a0] := by
    show 36893488147419103289 :: ev_ent [a0] = _
    rw [wm_entI ha0]
    rfl
  refine mq_of (maxL := 5) (rt := (some .int)) (code := (ev_un al_mX10_escape.2.2.2.2)) (L := [36893488147419103289, a0, 73786976294838206464, 73786976294838206464, 73786976294838206464]) rfl (by rw [e]; exact Nat.le_of_ble_eq_true rfl) (by rw [e]; rfl) ?_
  unfold dk_193 at h
  refine wq_aload_n rfl rfl rfl ?_
  refine wq_iload_n rfl rfl ha0 ?_
  obtain ⟨y1, e2, h⟩ := od_bindE h
  refine wd_virtI (q := 57) (y := y1) (as := [36893488147419103289, a0]) rfl rfl rfl (by decide) (Nat.le_of_ble_eq_true rfl) (Nat.le_of_ble_eq_true rfl) rfl (Nat.le_of_ble_eq_true rfl) rfl (dkT_186 hT ha0 e2) (fun p3 T4 => ?_)
  refine wq_istore_n rfl p3 (Nat.le_of_ble_eq_true rfl) (Or.inr ⟨_, rfl, (wq_notL ha0)⟩) (L' := [36893488147419103289, a0, y1.1, 73786976294838206464, 73786976294838206464]) rfl ?_
  refine wq_iload_n rfl rfl p3 ?_
  refine wq_bipush rfl rfl ?_
  refine wq_ic_eq rfl rfl p3 (by decide) (fun h5 => ?_) (fun h5 => ?_)
  · replace h := od_pos h h5
    exact dk_193_18T T4 p3 (wq_notL ha0) h
  · replace h := od_neg h h5
    refine wq_iload_n rfl rfl p3 ?_
    refine wq_bipush rfl rfl ?_
    refine wq_ic_ne rfl rfl p3 (by decide) (fun h6 => ?_) (fun h6 => ?_)
    · replace h := od_neg h h6
      refine wq_iload_n rfl rfl p3 ?_
      refine wq_bipush rfl rfl ?_
      refine wq_ic_eq rfl rfl p3 (by decide) (fun h7 => ?_) (fun h7 => ?_)
      · replace h := od_pos h h7
        refine wq_aload_n rfl rfl rfl ?_
        refine xm_getR (v := 36893488147419103234) (q := 57) rfl rfl (by decide) (by decide) (T4.r (k := 57) 1 1 rfl (by decide) rfl) ?_
        refine wq_iload_n rfl rfl p3 ?_
        obtain ⟨y8, e9, h⟩ := od_bindE h
        refine wd_virtN (q := 2) (y := y8) (as := [36893488147419103234, y1.1]) rfl rfl rfl (by decide) (Nat.le_of_ble_eq_true rfl) (Nat.le_of_ble_eq_true rfl) rfl (Nat.le_of_ble_eq_true rfl) rfl (dkT_0 T4 p3 e9) (fun T11 => ?_)
        refine wq_iconst rfl rfl ?_
        exact wq_iret rfl (wm_zlt (by decide)) rfl (wkOI h T11 (wm_zlt (by decide)))
      · replace h := od_neg h h7
        refine wq_iload_n rfl rfl p3 ?_
        refine wq_bipush rfl rfl ?_
        refine wq_ic_eq rfl rfl p3 (by decide) (fun h12 => ?_) (fun h12 => ?_)
        · replace h := od_pos h h12
          refine wq_aload_n rfl rfl rfl ?_
          refine xm_getR (v := 36893488147419103234) (q := 57) rfl rfl (by decide) (by decide) (T4.r (k := 57) 1 1 rfl (by decide) rfl) ?_
          refine wq_iload_n rfl rfl p3 ?_
          obtain ⟨y13, e14, h⟩ := od_bindE h
          refine wd_virtN (q := 2) (y := y13) (as := [36893488147419103234, y1.1]) rfl rfl rfl (by decide) (Nat.le_of_ble_eq_true rfl) (Nat.le_of_ble_eq_true rfl) rfl (Nat.le_of_ble_eq_true rfl) rfl (dkT_0 T4 p3 e14) (fun T16 => ?_)
          refine wq_iconst rfl rfl ?_
          exact wq_iret rfl (wm_zlt (by decide)) rfl (wkOI h T16 (wm_zlt (by decide)))
        · replace h := od_neg h h12
          refine wq_iload_n rfl rfl p3 ?_
          refine wq_bipush rfl rfl ?_
          refine wq_ic_ne rfl rfl p3 (by decide) (fun h17 => ?_) (fun h17 => ?_)
          · replace h := od_neg h h17
            refine wq_iconst rfl rfl ?_
            refine wq_istore_n rfl (wm_zlt (by decide)) (Nat.le_of_ble_eq_true rfl) (Or.inr ⟨_, rfl, (wq_notL p3)⟩) (L' := [36893488147419103289, a0, y1.1, 0, 73786976294838206464]) rfl ?_
            refine wq_iconst rfl rfl ?_
            refine wq_istore rfl (wm_zlt (by decide)) (Nat.le_of_ble_eq_true rfl) (Or.inr ⟨_, rfl, (wq_notL (wm_zlt (by decide)))⟩) (L' := [36893488147419103289, a0, y1.1, 0, 0]) rfl ?_
            exact dk_193_73T n T4 ha0 (wm_zlt (by decide)) (wm_zlt (by decide)) (wq_notL p3) h
          · replace h := od_pos h h17
            refine wq_aload_n rfl rfl rfl ?_
            refine xm_getR (v := 36893488147419103234) (q := 57) rfl rfl (by decide) (by decide) (T4.r (k := 57) 1 1 rfl (by decide) rfl) ?_
            refine wq_iload_n rfl rfl p3 ?_
            obtain ⟨y18, e19, h⟩ := od_bindE h
            refine wd_virtN (q := 2) (y := y18) (as := [36893488147419103234, y1.1]) rfl rfl rfl (by decide) (Nat.le_of_ble_eq_true rfl) (Nat.le_of_ble_eq_true rfl) rfl (Nat.le_of_ble_eq_true rfl) rfl (dkT_0 T4 p3 e19) (fun T21 => ?_)
            refine wq_iconst rfl rfl ?_
            exact wq_iret rfl (wm_zlt (by decide)) rfl (wkOI h T21 (wm_zlt (by decide)))
    · replace h := od_pos h h6
      exact dk_193_18T T4 p3 (wq_notL ha0) h
/-- X8_rowLength -/
def dk_176 (F : wq_F) : Option (Nat × wq_F) :=
  some (F 2 15, F)
theorem dkT_176 {d : Nat} {F : wq_F} (hT : xm_T F) {x : Nat × wq_F} (h : dk_176 F = some x) : mq (d + 0 + 1) 176 [36893488147419103234] xm_sh F (wkI xm_T xm_sh x) := by
  have e : ev_ent [36893488147419103234] = [36893488147419103234] := by
    rfl
  refine mq_of (maxL := 1) (rt := (some .int)) (code := (ev_un al_mX8_rowLength.2.2.2.2)) (L := [36893488147419103234]) rfl (by rw [e]; exact Nat.le_of_ble_eq_true rfl) (by rw [e]; rfl) ?_
  unfold dk_176 at h
  refine wq_aload_n rfl rfl rfl ?_
  refine xm_getI (q := 2) rfl rfl (by decide) (by decide) ?_
  exact wq_iret rfl (hT.i (k := 2) 15 rfl (by decide) rfl) rfl (wkOI h hT (hT.i (k := 2) 15 rfl (by decide) rfl))
def dk_192_107 (n : Nat) (F : wq_F) (v1 : Nat) (v2 : Nat) : Option (Nat × wq_F) :=
  od_up F 57 4 1 fun F1 =>
  od_up F1 57 3 v2 fun F4 =>
  (dk_186 F4 v2).bind fun y7 =>
  if y7.1 = v1 then
    (dk_176 y7.2).bind fun y12 =>
    if ev_s 200 < ev_s y12.1 then
      some (0, y12.2)
    else
      od_up y12.2 57 4 4 fun F17 =>
      od_up F17 57 3 ((v2 + 1) % 4294967296) fun F20 =>
      (dk_181 n F20).bind fun y23 =>
      od_up y23.2 57 8 (ev_oI2l y23.1) fun F27 =>
      some (0, F27)
  else
    some (0, y7.2)
theorem dk_192_107T {d n : Nat} : ∀ ⦃u3 : Nat⦄ ⦃F : wq_F⦄ (hT : xm_T F) ⦃v1 : Nat⦄ (hv1 : v1 < 4294967296) ⦃v2 : Nat⦄ (hv2 : v2 < 4294967296) (hu3 : ev_isL u3 = false) ⦃x : Nat × wq_F⦄ (h : dk_192_107 n F v1 v2 = some x), wq (wq_cf (d + 2)) (ev_un al_mX10_scanQuoted.2.2.2.2) none 107 [36893488147419103289, v1, v2, u3] [] xm_sh F 0 0 (wkN xm_T xm_sh x) := by
  intro u3 F hT v1 hv1 v2 hv2 hu3 x h
  unfold dk_192_107 at h
  refine wq_aload_n rfl rfl rfl ?_
  refine wq_iconst rfl rfl ?_
  obtain ⟨F1, e2, h⟩ := od_upE h
  refine xmE_put (q := 57) rfl rfl (by decide) (by decide) (wq_I (wm_zlt (by decide))) e2 ?_
  have T3 : xm_T F1 := wd_T e2 (hT.uf (k := 57) (f := 4) (c := 0) (v := 1) rfl (by decide) rfl (show 1 < 4294967296 from (wm_zlt (by decide))))
  refine wq_aload_n rfl rfl rfl ?_
  refine wq_iload_n rfl rfl hv2 ?_
  obtain ⟨F4, e5, h⟩ := od_upE h
  refine xmE_put (q := 57) rfl rfl (by decide) (by decide) (wq_I hv2) e5 ?_
  have T6 : xm_T F4 := wd_T e5 (T3.uf (k := 57) (f := 3) (c := 0) (v := v2) rfl (by decide) rfl (show v2 < 4294967296 from hv2))
  refine wq_aload_n rfl rfl rfl ?_
  refine wq_iload_n rfl rfl hv2 ?_
  obtain ⟨y7, e8, h⟩ := od_bindE h
  refine wd_virtI (q := 57) (y := y7) (as := [36893488147419103289, v2]) rfl rfl rfl (by decide) (Nat.le_of_ble_eq_true rfl) (Nat.le_of_ble_eq_true rfl) rfl (Nat.le_of_ble_eq_true rfl) rfl (dkT_186 T6 hv2 e8) (fun p9 T10 => ?_)
  refine wq_iload_n rfl rfl hv1 ?_
  refine wq_ic_ne rfl rfl p9 hv1 (fun h11 => ?_) (fun h11 => ?_)
  · replace h := od_neg h h11
    exact wq_ret rfl (wkON h T10)
  · replace h := od_pos h h11
    refine wq_aload_n rfl rfl rfl ?_
    refine xm_getR (v := 36893488147419103234) (q := 57) rfl rfl (by decide) (by decide) (T10.r (k := 57) 1 1 rfl (by decide) rfl) ?_
    obtain ⟨y12, e13, h⟩ := od_bindE h
    refine wd_virtI (q := 2) (y := y12) (as := [36893488147419103234]) rfl rfl rfl (by decide) (Nat.le_of_ble_eq_true rfl) (Nat.le_of_ble_eq_true rfl) rfl (Nat.le_of_ble_eq_true rfl) rfl (dkT_176 T10 e13) (fun p14 T15 => ?_)
    refine wq_sipush rfl rfl ?_
    refine wq_ic_gt rfl rfl p14 (by decide) (fun h16 => ?_) (fun h16 => ?_)
    · replace h := od_pos h h16
      exact wq_ret rfl (wkON h T15)
    · replace h := od_neg h (Nat.not_lt.mpr h16)
      refine wq_aload_n rfl rfl rfl ?_
      refine wq_iconst rfl rfl ?_
      obtain ⟨F17, e18, h⟩ := od_upE h
      refine xmE_put (q := 57) rfl rfl (by decide) (by decide) (wq_I (by decide)) e18 ?_
      have T19 : xm_T F17 := wd_T e18 (T15.uf (k := 57) (f := 4) (c := 0) (v := 4) rfl (by decide) rfl (show 4 < 4294967296 from (by decide)))
      refine wq_aload_n rfl rfl rfl ?_
      refine wq_iload_n rfl rfl hv2 ?_
      refine wq_iconst rfl rfl ?_
      refine wq_iaddZ rfl hv2 (wm_zlt (by decide)) (z := (v2 + 1) % 4294967296) rfl ?_
      obtain ⟨F20, e21, h⟩ := od_upE h
      refine xmE_put (q := 57) rfl rfl (by decide) (by decide) (wq_I (Nat.mod_lt _ (by decide))) e21 ?_
      have T22 : xm_T F20 := wd_T e21 (T19.uf (k := 57) (f := 3) (c := 0) (v := (v2 + 1) % 4294967296) rfl (by decide) rfl (show (v2 + 1) % 4294967296 < 4294967296 from (Nat.mod_lt _ (by decide))))
      refine wq_aload_n rfl rfl rfl ?_
      refine wq_aload_n rfl rfl rfl ?_
      refine xm_getR (v := 36893488147419103234) (q := 57) rfl rfl (by decide) (by decide) (T22.r (k := 57) 1 1 rfl (by decide) rfl) ?_
      obtain ⟨y23, e24, h⟩ := od_bindE h
      refine wd_virtI (q := 2) (y := y23) (as := [36893488147419103234]) rfl rfl rfl (by decide) (Nat.le_of_ble_eq_true rfl) (Nat.le_of_ble_eq_true rfl) rfl (Nat.le_of_ble_eq_true rfl) rfl (dkT_181 T22 e24) (fun p25 T26 => ?_)
      refine wq_i2l rfl p25 ?_
      obtain ⟨F27, e28, h⟩ := od_upE h
      refine xmE_put (q := 57) rfl rfl (by decide) (by decide) (wq_i2l_L p25) e28 ?_
      have T29 : xm_T F27 := wd_T e28 (T26.uf (k := 57) (f := 8) (c := 10) (v := ev_oI2l y23.1) rfl (by decide) rfl (show ev_isL (ev_oI2l y23.1) = true from (wq_i2l_L p25)))
      exact wq_ret rfl (wkON h T29)
def dk_192_24b (n : Nat) (r24 : wq_F → Nat → Nat → Option (Nat × wq_F)) (F : wq_F) (v1 : Nat) (v2 : Nat) : Option (Nat × wq_F) :=
  if ev_s v2 < ev_s (F 57 2) then
    od_g (v2 < 6000) <|
    if (F 1 v2) = v1 then
      dk_192_107 n F v1 v2
    else
      od_g (v2 < 6000) <|
      if (F 1 v2) = 10 then
        dk_192_107 n F v1 v2
      else
        od_g (v2 < 6000) <|
        if (F 1 v2) = 92 then
          (dk_193 n F ((v2 + 1) % 4294967296)).bind fun y8 =>
          if y8.1 = 0 then
            dk_192_107 n y8.2 v1 v2
          else
            od_let ((v2 + ((1 + y8.1) % 4294967296)) % 4294967296) fun y13 =>
            r24 y8.2 v1 y13
        else
          od_g (v2 < 6000) <|
          (dk_0 F (F 1 v2)).bind fun y17 =>
          od_let ((v2 + 1) % 4294967296) fun y21 =>
          r24 y17.2 v1 y21
  else
    dk_192_107 n F v1 v2
theorem dk_192_24bT {d n : Nat} {r24 : wq_F → Nat → Nat → Option (Nat × wq_F)} (hr24 : ∀ ⦃u3 : Nat⦄ ⦃F : wq_F⦄ (hT : xm_T F) ⦃v1 : Nat⦄ (hv1 : v1 < 4294967296) ⦃v2 : Nat⦄ (hv2 : v2 < 4294967296) (hu3 : ev_isL u3 = false) ⦃x : Nat × wq_F⦄ (h : r24 F v1 v2 = some x), wq (wq_cf (d + 2)) (ev_un al_mX10_scanQuoted.2.2.2.2) none 24 [36893488147419103289, v1, v2, u3] [] xm_sh F 0 0 (wkN xm_T xm_sh x)) : ∀ ⦃u3 : Nat⦄ ⦃F : wq_F⦄ (hT : xm_T F) ⦃v1 : Nat⦄ (hv1 : v1 < 4294967296) ⦃v2 : Nat⦄ (hv2 : v2 < 4294967296) (hu3 : ev_isL u3 = false) ⦃x : Nat × wq_F⦄ (h : dk_192_24b n r24 F v1 v2 = some x), wq (wq_cf (d + 2)) (ev_un al_mX10_scanQuoted.2.2.2.2) none 24 [36893488147419103289, v1, v2, u3] [] xm_sh F 0 0 (wkN xm_T xm_sh x) := by
  intro u3 F hT v1 hv1 v2 hv2 hu3 x h
  unfold dk_192_24b at h
  refine wq_iload_n rfl rfl hv2 ?_
  refine wq_aload_n rfl rfl rfl ?_
  refine xm_getI (q := 57) rfl rfl (by decide) (by decide) ?_
  refine wq_ic_ge rfl rfl hv2 (hT.i (k := 57) 2 rfl (by decide) rfl) (fun h1 => ?_) (fun h1 => ?_)
  · replace h := od_neg h (Nat.not_lt.mpr h1)
    exact dk_192_107T hT hv1 hv2 hu3 h
  · replace h := od_pos h h1
    refine wq_aload_n rfl rfl rfl ?_
    refine xm_getR (v := 36893488147419103233) (q := 57) rfl rfl (by decide) (by decide) (hT.r (k := 57) 0 0 rfl (by decide) rfl) ?_
    refine wq_iload_n rfl rfl hv2 ?_
    obtain ⟨g2, h⟩ := od_gE h
    refine wq_baload (q := 1) (n := 6000) rfl rfl (by decide) g2 (by decide) ?_
    refine wq_iload_n rfl rfl hv1 ?_
    refine wq_ic_eq rfl rfl (hT.ab (k := 1) rfl g2) hv1 (fun h3 => ?_) (fun h3 => ?_)
    · replace h := od_pos h h3
      exact dk_192_107T hT hv1 hv2 hu3 h
    · replace h := od_neg h h3
      refine wq_aload_n rfl rfl rfl ?_
      refine xm_getR (v := 36893488147419103233) (q := 57) rfl rfl (by decide) (by decide) (hT.r (k := 57) 0 0 rfl (by decide) rfl) ?_
      refine wq_iload_n rfl rfl hv2 ?_
      obtain ⟨g4, h⟩ := od_gE h
      refine wq_baload (q := 1) (n := 6000) rfl rfl (by decide) g4 (by decide) ?_
      refine wq_bipush rfl rfl ?_
      refine wq_ic_eq rfl rfl (hT.ab (k := 1) rfl g4) (by decide) (fun h5 => ?_) (fun h5 => ?_)
      · replace h := od_pos h h5
        exact dk_192_107T hT hv1 hv2 hu3 h
      · replace h := od_neg h h5
        refine wq_aload_n rfl rfl rfl ?_
        refine xm_getR (v := 36893488147419103233) (q := 57) rfl rfl (by decide) (by decide) (hT.r (k := 57) 0 0 rfl (by decide) rfl) ?_
        refine wq_iload_n rfl rfl hv2 ?_
        obtain ⟨g6, h⟩ := od_gE h
        refine wq_baload (q := 1) (n := 6000) rfl rfl (by decide) g6 (by decide) ?_
        refine wq_bipush rfl rfl ?_
        refine wq_ic_eq rfl rfl (hT.ab (k := 1) rfl g6) (by decide) (fun h7 => ?_) (fun h7 => ?_)
        · replace h := od_pos h h7
          refine wq_aload_n rfl rfl rfl ?_
          refine wq_iload_n rfl rfl hv2 ?_
          refine wq_iconst rfl rfl ?_
          refine wq_iaddZ rfl hv2 (wm_zlt (by decide)) (z := (v2 + 1) % 4294967296) rfl ?_
          obtain ⟨y8, e9, h⟩ := od_bindE h
          refine wd_virtI (q := 57) (y := y8) (as := [36893488147419103289, (v2 + 1) % 4294967296]) rfl rfl rfl (by decide) (Nat.le_of_ble_eq_true rfl) (Nat.le_of_ble_eq_true rfl) rfl (Nat.le_of_ble_eq_true rfl) rfl (dkT_193 hT (Nat.mod_lt _ (by decide)) e9) (fun p10 T11 => ?_)
          refine wq_istore_n rfl p10 (Nat.le_of_ble_eq_true rfl) (Or.inr ⟨_, rfl, (wq_notL hv2)⟩) (L' := [36893488147419103289, v1, v2, y8.1]) rfl ?_
          refine wq_iload_n rfl rfl p10 ?_
          refine wq_if_ne rfl rfl p10 (fun h12 => ?_) (fun h12 => ?_)
          · replace h := od_neg h h12
            refine wq_iload_n rfl rfl hv2 ?_
            refine wq_iconst rfl rfl ?_
            refine wq_iload_n rfl rfl p10 ?_
            refine wq_iaddZ rfl (wm_zlt (by decide)) p10 (z := (1 + y8.1) % 4294967296) rfl ?_
            refine wq_iaddZ rfl hv2 (Nat.mod_lt _ (by decide)) (z := (v2 + ((1 + y8.1) % 4294967296)) % 4294967296) rfl ?_
            obtain ⟨y13, e14, h⟩ := od_letE h
            refine wq_top e14.symm ?_
            have p15 : y13 < 4294967296 := wd_lt e14 (Nat.mod_lt _ (by decide))
            refine wq_istore_n rfl p15 (Nat.le_of_ble_eq_true rfl) (Or.inr ⟨_, rfl, (wq_notL hv1)⟩) (L' := [36893488147419103289, v1, y13, y8.1]) rfl ?_
            refine wq_goto rfl rfl ?_
            exact hr24 T11 hv1 p15 (wq_notL p10) h
          · replace h := od_pos h h12
            refine wq_goto rfl rfl ?_
            exact dk_192_107T T11 hv1 hv2 (wq_notL p10) h
        · replace h := od_neg h h7
          refine wq_aload_n rfl rfl rfl ?_
          refine xm_getR (v := 36893488147419103234) (q := 57) rfl rfl (by decide) (by decide) (hT.r (k := 57) 1 1 rfl (by decide) rfl) ?_
          refine wq_aload_n rfl rfl rfl ?_
          refine xm_getR (v := 36893488147419103233) (q := 57) rfl rfl (by decide) (by decide) (hT.r (k := 57) 0 0 rfl (by decide) rfl) ?_
          refine wq_iload_n rfl rfl hv2 ?_
          obtain ⟨g16, h⟩ := od_gE h
          refine wq_baload (q := 1) (n := 6000) rfl rfl (by decide) g16 (by decide) ?_
          obtain ⟨y17, e18, h⟩ := od_bindE h
          refine wd_virtN (q := 2) (y := y17) (as := [36893488147419103234, F 1 v2]) rfl rfl rfl (by decide) (Nat.le_of_ble_eq_true rfl) (Nat.le_of_ble_eq_true rfl) rfl (Nat.le_of_ble_eq_true rfl) rfl (dkT_0 hT (hT.ab (k := 1) rfl g16) e18) (fun T20 => ?_)
          obtain ⟨y21, e22, h⟩ := od_letE h
          have p23 : y21 < 4294967296 := wd_lt e22 (Nat.mod_lt _ (by decide))
          refine wq_iincZ rfl rfl hv2 (Or.inr ⟨_, rfl, (wq_notL hv1)⟩) rfl (z := y21) e22.symm (L' := [36893488147419103289, v1, y21, u3]) rfl ?_
          refine wq_goto rfl rfl ?_
          exact hr24 T20 hv1 p23 hu3 h
def dk_192_24 (n : Nat) : Nat → wq_F → Nat → Nat → Option (Nat × wq_F)
  | 0 => fun _ _ _ => none
  | g + 1 => dk_192_24b n (dk_192_24 n g)
theorem dk_192_24T {d n : Nat} : ∀ g : Nat, ∀ ⦃u3 : Nat⦄ ⦃F : wq_F⦄ (hT : xm_T F) ⦃v1 : Nat⦄ (hv1 : v1 < 4294967296) ⦃v2 : Nat⦄ (hv2 : v2 < 4294967296) (hu3 : ev_isL u3 = false) ⦃x : Nat × wq_F⦄ (h : dk_192_24 n g F v1 v2 = some x), wq (wq_cf (d + 2)) (ev_un al_mX10_scanQuoted.2.2.2.2) none 24 [36893488147419103289, v1, v2, u3] [] xm_sh F 0 0 (wkN xm_T xm_sh x)
  | 0 => by
    intro u3 F hT v1 hv1 v2 hv2 hu3 x h
    cases h
  | g + 1 => dk_192_24bT (dk_192_24T g)
/-- X10_scanQuoted -/
def dk_192 (n : Nat) (F : wq_F) : Option (Nat × wq_F) :=
  od_g (F 57 5 < 6000) <|
  (dk_10 F).bind fun y2 =>
  dk_192_24 n n y2.2 (F 1 (F 57 5)) (((F 57 5) + 1) % 4294967296)
theorem dkT_192 {d n : Nat} {F : wq_F} (hT : xm_T F) {x : Nat × wq_F} (h : dk_192 n F = some x) : mq (d + 2 + 1) 192 [36893488147419103289] xm_sh F (wkN xm_T xm_sh x) := by
  have e : ev_ent [36893488147419103289] = [36893488147419103289] := by
    rfl
  refine mq_of (maxL := 4) (rt := none) (code := (ev_un al_mX10_scanQuoted.2.2.2.2)) (L := [36893488147419103289, 73786976294838206464, 73786976294838206464, 73786976294838206464]) rfl (by rw [e]; exact Nat.le_of_ble_eq_true rfl) (by rw [e]; rfl) ?_
  unfold dk_192 at h
  refine wq_aload_n rfl rfl rfl ?_
  refine xm_getR (v := 36893488147419103233) (q := 57) rfl rfl (by decide) (by decide) (hT.r (k := 57) 0 0 rfl (by decide) rfl) ?_
  refine wq_aload_n rfl rfl rfl ?_
  refine xm_getI (q := 57) rfl rfl (by decide) (by decide) ?_
  obtain ⟨g1, h⟩ := od_gE h
  refine wq_baload (q := 1) (n := 6000) rfl rfl (by decide) g1 (by decide) ?_
  refine wq_istore_n rfl (hT.ab (k := 1) rfl g1) (Nat.le_of_ble_eq_true rfl) (Or.inr ⟨_, rfl, rfl⟩) (L' := [36893488147419103289, F 1 (F 57 5), 73786976294838206464, 73786976294838206464]) rfl ?_
  refine wq_aload_n rfl rfl rfl ?_
  refine xm_getI (q := 57) rfl rfl (by decide) (by decide) ?_
  refine wq_iconst rfl rfl ?_
  refine wq_iaddZ rfl (hT.i (k := 57) 5 rfl (by decide) rfl) (wm_zlt (by decide)) (z := ((F 57 5) + 1) % 4294967296) rfl ?_
  refine wq_istore_n rfl (Nat.mod_lt _ (by decide)) (Nat.le_of_ble_eq_true rfl) (Or.inr ⟨_, rfl, (wq_notL (hT.ab (k := 1) rfl g1))⟩) (L' := [36893488147419103289, F 1 (F 57 5), ((F 57 5) + 1) % 4294967296, 73786976294838206464]) rfl ?_
  refine wq_aload_n rfl rfl rfl ?_
  refine xm_getR (v := 36893488147419103234) (q := 57) rfl rfl (by decide) (by decide) (hT.r (k := 57) 1 1 rfl (by decide) rfl) ?_
  obtain ⟨y2, e3, h⟩ := od_bindE h
  refine wd_virtN (q := 2) (y := y2) (as := [36893488147419103234]) rfl rfl rfl (by decide) (Nat.le_of_ble_eq_true rfl) (Nat.le_of_ble_eq_true rfl) rfl (Nat.le_of_ble_eq_true rfl) rfl (dkT_10 hT e3) (fun T5 => ?_)
  exact dk_192_24T n T5 (hT.ab (k := 1) rfl g1) (Nat.mod_lt _ (by decide)) rfl h
