/-! ===== a88: objects.clear, machine.reset and compile of the class (by wip/whole2/lawa88.py, dc.py) ===== -/
section
variable {d : Nat} {cf : Nat → List Nat → ev_H → Option ev_A} {code : List (List ev_I)} {rt : Option FieldType} {pc a b t w ln nc ns : Nat} {L st : List Nat} {sh : List (Nat × Nat)} {F : wq_F} {K : Option Nat → List (Nat × Nat) → wq_F → Nat → Nat → Prop}
theorem wq_aaload {q n j v : Nat} (hf : ev_ft code pc = some (pc, .aaload, ln, a, b, t, w)) (hq : sh[q]? = some (1020, n)) (hqb : q < 18446744073709551616) (hj : j < n) (hn : n < 2147483648) (hv : F q j = v) (h0 : Nat.beq v 0 = false) (k : wq cf code rt (pc + 1) L (v :: st) sh F nc ns K) : wq cf code rt pc L (j :: (36893488147419103232 + q) :: st) sh F nc ns K :=
  wq_one hf rfl (fun B hB => ⟨B, hB, ev_stepX_of rfl (by simp only [ev_step, ev_stH, wq_ix hq hqb hj hn, hB q j, hv, h0, cond_false])⟩) (Nat.le_refl _) (Nat.le_refl _) k
end
/-- X3_clear -/
def dk_66 (F : wq_F) : Option (Nat × wq_F) :=
  od_up F 38 3 0 fun F1 =>
  od_up F1 38 4 0 fun F4 =>
  od_up F4 38 6 0 fun F7 =>
  od_up F7 38 9 0 fun F10 =>
  od_up F10 38 11 0 fun F13 =>
  od_g (F13 45 0 = 36893488147419103278) <|
  (dk_69 F13 0 2).bind fun y17 =>
  some (0, y17.2)
theorem dkT_66 {d : Nat} {F : wq_F} (hT : xm_T F) {x : Nat × wq_F} (h : dk_66 F = some x) : mq (d + 1 + 1) 66 [36893488147419103270] xm_sh F (wkN xm_T xm_sh x) := by
  have e : ev_ent [36893488147419103270] = [36893488147419103270] := by
    rfl
  refine mq_of (maxL := 1) (rt := none) (code := (ev_un al_mX3_clear.2.2.2.2)) (L := [36893488147419103270]) rfl (by rw [e]; exact Nat.le_of_ble_eq_true rfl) (by rw [e]; rfl) ?_
  unfold dk_66 at h
  refine wq_aload_n rfl rfl rfl ?_
  refine wq_iconst rfl rfl ?_
  obtain ⟨F1, e2, h⟩ := od_upE h
  refine xmE_put (q := 38) rfl rfl (by decide) (by decide) (wq_I (wm_zlt (by decide))) e2 ?_
  have T3 : xm_T F1 := wd_T e2 (hT.uf (k := 38) (f := 3) (c := 0) (v := 0) rfl (by decide) rfl (show 0 < 4294967296 from (wm_zlt (by decide))))
  refine wq_aload_n rfl rfl rfl ?_
  refine wq_iconst rfl rfl ?_
  obtain ⟨F4, e5, h⟩ := od_upE h
  refine xmE_put (q := 38) rfl rfl (by decide) (by decide) (wq_I (wm_zlt (by decide))) e5 ?_
  have T6 : xm_T F4 := wd_T e5 (T3.uf (k := 38) (f := 4) (c := 0) (v := 0) rfl (by decide) rfl (show 0 < 4294967296 from (wm_zlt (by decide))))
  refine wq_aload_n rfl rfl rfl ?_
  refine wq_iconst rfl rfl ?_
  obtain ⟨F7, e8, h⟩ := od_upE h
  refine xmE_put (q := 38) rfl rfl (by decide) (by decide) (wq_I (wm_zlt (by decide))) e8 ?_
  have T9 : xm_T F7 := wd_T e8 (T6.uf (k := 38) (f := 6) (c := 0) (v := 0) rfl (by decide) rfl (show 0 < 4294967296 from (wm_zlt (by decide))))
  refine wq_aload_n rfl rfl rfl ?_
  refine wq_iconst rfl rfl ?_
  obtain ⟨F10, e11, h⟩ := od_upE h
  refine xmE_put (q := 38) rfl rfl (by decide) (by decide) (wq_I (wm_zlt (by decide))) e11 ?_
  have T12 : xm_T F10 := wd_T e11 (T9.uf (k := 38) (f := 9) (c := 0) (v := 0) rfl (by decide) rfl (show 0 < 4294967296 from (wm_zlt (by decide))))
  refine wq_aload_n rfl rfl rfl ?_
  refine wq_iconst rfl rfl ?_
  obtain ⟨F13, e14, h⟩ := od_upE h
  refine xmE_put (q := 38) rfl rfl (by decide) (by decide) (wq_I (wm_zlt (by decide))) e14 ?_
  have T15 : xm_T F13 := wd_T e14 (T12.uf (k := 38) (f := 11) (c := 0) (v := 0) rfl (by decide) rfl (show 0 < 4294967296 from (wm_zlt (by decide))))
  refine wq_aload_n rfl rfl rfl ?_
  refine xm_getR (v := 36893488147419103277) (q := 38) rfl rfl (by decide) (by decide) (T15.r (k := 38) 10 44 rfl (by decide) rfl) ?_
  refine wq_iconst rfl rfl ?_
  obtain ⟨g16, h⟩ := od_gE h
  refine wq_aaload (q := 45) (n := 26) (v := 36893488147419103278) rfl rfl (by decide) (by decide) (by decide) g16 rfl ?_
  refine wq_iconst rfl rfl ?_
  refine wq_iconst rfl rfl ?_
  obtain ⟨y17, e18, h⟩ := od_bindE h
  refine wd_virtN (q := 46) (y := y17) (as := [36893488147419103278, 0, 2]) rfl rfl rfl (by decide) (Nat.le_of_ble_eq_true rfl) (Nat.le_of_ble_eq_true rfl) rfl (Nat.le_of_ble_eq_true rfl) rfl (dkT_69 T15 (wm_zlt (by decide)) (by decide) e18) (fun T20 => ?_)
  exact wq_ret rfl (wkON h T20)
/-- X2_reset -/
def dk_88 (n : Nat) (F : wq_F) : Option (Nat × wq_F) :=
  (dk_53 n F).bind fun y1 =>
  (dk_66 y1.2).bind fun y5 =>
  (dk_60 y5.2).bind fun y9 =>
  (dk_86 y9.2).bind fun y13 =>
  (dk_91 n y13.2).bind fun y17 =>
  od_up y17.2 75 7 2 fun F21 =>
  od_up F21 75 8 18446744073709551616 fun F24 =>
  od_up F24 75 10 0 fun F27 =>
  od_up F27 75 11 0 fun F30 =>
  od_g (F30 45 0 = 36893488147419103278) <|
  od_up F30 75 6 36893488147419103278 fun F34 =>
  od_g (F34 75 6 = 36893488147419103278) <|
  od_g (0 < 50) <|
  (dk_70 F34 0 0 (F34 17 0) 0 0 4294967295 0).bind fun y39 =>
  some (0, y39.2)
theorem dkT_88 {d n : Nat} {F : wq_F} (hT : xm_T F) {x : Nat × wq_F} (h : dk_88 n F = some x) : mq (d + 3 + 1) 88 [36893488147419103307] xm_sh F (wkN xm_T xm_sh x) := by
  have e : ev_ent [36893488147419103307] = [36893488147419103307] := by
    rfl
  refine mq_of (maxL := 1) (rt := none) (code := (ev_un al_mX2_reset.2.2.2.2)) (L := [36893488147419103307]) rfl (by rw [e]; exact Nat.le_of_ble_eq_true rfl) (by rw [e]; rfl) ?_
  unfold dk_88 at h
  refine wq_aload_n rfl rfl rfl ?_
  refine xm_getR (v := 36893488147419103234) (q := 75) rfl rfl (by decide) (by decide) (hT.r (k := 75) 1 1 rfl (by decide) rfl) ?_
  obtain ⟨y1, e2, h⟩ := od_bindE h
  refine wd_virtN (q := 2) (y := y1) (as := [36893488147419103234]) rfl rfl rfl (by decide) (Nat.le_of_ble_eq_true rfl) (Nat.le_of_ble_eq_true rfl) rfl (Nat.le_of_ble_eq_true rfl) rfl (dkT_53 hT e2) (fun T4 => ?_)
  refine wq_aload_n rfl rfl rfl ?_
  refine xm_getR (v := 36893488147419103270) (q := 75) rfl rfl (by decide) (by decide) (T4.r (k := 75) 3 37 rfl (by decide) rfl) ?_
  obtain ⟨y5, e6, h⟩ := od_bindE h
  refine wd_virtN (q := 38) (y := y5) (as := [36893488147419103270]) rfl rfl rfl (by decide) (Nat.le_of_ble_eq_true rfl) (Nat.le_of_ble_eq_true rfl) rfl (Nat.le_of_ble_eq_true rfl) rfl (dkT_66 T4 e6) (fun T8 => ?_)
  refine wq_aload_n rfl rfl rfl ?_
  refine xm_getR (v := 36893488147419103256) (q := 75) rfl rfl (by decide) (by decide) (T8.r (k := 75) 2 23 rfl (by decide) rfl) ?_
  obtain ⟨y9, e10, h⟩ := od_bindE h
  refine wd_virtN (q := 24) (y := y9) (as := [36893488147419103256]) rfl rfl rfl (by decide) (Nat.le_of_ble_eq_true rfl) (Nat.le_of_ble_eq_true rfl) rfl (Nat.le_of_ble_eq_true rfl) rfl (dkT_60 T8 e10) (fun T12 => ?_)
  refine wq_aload_n rfl rfl rfl ?_
  refine xm_getR (v := 36893488147419103299) (q := 75) rfl rfl (by decide) (by decide) (T12.r (k := 75) 4 66 rfl (by decide) rfl) ?_
  obtain ⟨y13, e14, h⟩ := od_bindE h
  refine wd_virtN (q := 67) (y := y13) (as := [36893488147419103299]) rfl rfl rfl (by decide) (Nat.le_of_ble_eq_true rfl) (Nat.le_of_ble_eq_true rfl) rfl (Nat.le_of_ble_eq_true rfl) rfl (dkT_86 T12 e14) (fun T16 => ?_)
  refine wq_aload_n rfl rfl rfl ?_
  refine xm_getR (v := 36893488147419103308) (q := 75) rfl rfl (by decide) (by decide) (T16.r (k := 75) 5 75 rfl (by decide) rfl) ?_
  obtain ⟨y17, e18, h⟩ := od_bindE h
  refine wd_virtN (q := 76) (y := y17) (as := [36893488147419103308]) rfl rfl rfl (by decide) (Nat.le_of_ble_eq_true rfl) (Nat.le_of_ble_eq_true rfl) rfl (Nat.le_of_ble_eq_true rfl) rfl (dkT_91 T16 e18) (fun T20 => ?_)
  refine wq_aload_n rfl rfl rfl ?_
  refine wq_iconst rfl rfl ?_
  obtain ⟨F21, e22, h⟩ := od_upE h
  refine xmE_put (q := 75) rfl rfl (by decide) (by decide) (wq_I (by decide)) e22 ?_
  have T23 : xm_T F21 := wd_T e22 (T20.uf (k := 75) (f := 7) (c := 0) (v := 2) rfl (by decide) rfl (show 2 < 4294967296 from (by decide)))
  refine wq_aload_n rfl rfl rfl ?_
  refine wq_lconst rfl ?_
  obtain ⟨F24, e25, h⟩ := od_upE h
  refine xmE_put (q := 75) rfl rfl (by decide) (by decide) rfl e25 ?_
  have T26 : xm_T F24 := wd_T e25 (T23.uf (k := 75) (f := 8) (c := 10) (v := 18446744073709551616) rfl (by decide) rfl (show ev_isL 18446744073709551616 = true from rfl))
  refine wq_aload_n rfl rfl rfl ?_
  refine wq_iconst rfl rfl ?_
  obtain ⟨F27, e28, h⟩ := od_upE h
  refine xmE_put (q := 75) rfl rfl (by decide) (by decide) (wq_I (wm_zlt (by decide))) e28 ?_
  have T29 : xm_T F27 := wd_T e28 (T26.uf (k := 75) (f := 10) (c := 0) (v := 0) rfl (by decide) rfl (show 0 < 4294967296 from (wm_zlt (by decide))))
  refine wq_aload_n rfl rfl rfl ?_
  refine wq_iconst rfl rfl ?_
  obtain ⟨F30, e31, h⟩ := od_upE h
  refine xmE_put (q := 75) rfl rfl (by decide) (by decide) (wq_I (wm_zlt (by decide))) e31 ?_
  have T32 : xm_T F30 := wd_T e31 (T29.uf (k := 75) (f := 11) (c := 0) (v := 0) rfl (by decide) rfl (show 0 < 4294967296 from (wm_zlt (by decide))))
  refine wq_aload_n rfl rfl rfl ?_
  refine wq_aload_n rfl rfl rfl ?_
  refine xm_getR (v := 36893488147419103270) (q := 75) rfl rfl (by decide) (by decide) (T32.r (k := 75) 3 37 rfl (by decide) rfl) ?_
  refine xm_getR (v := 36893488147419103277) (q := 38) rfl rfl (by decide) (by decide) (T32.r (k := 38) 10 44 rfl (by decide) rfl) ?_
  refine wq_iconst rfl rfl ?_
  obtain ⟨g33, h⟩ := od_gE h
  refine wq_aaload (q := 45) (n := 26) (v := 36893488147419103278) rfl rfl (by decide) (by decide) (by decide) g33 rfl ?_
  obtain ⟨F34, e35, h⟩ := od_upE h
  refine xmE_put (q := 75) rfl rfl (by decide) (by decide) rfl e35 ?_
  have T36 : xm_T F34 := wd_T e35 (T32.uf (k := 75) (f := 6) (c := 20) (v := 36893488147419103278) rfl (by decide) rfl (show (ev_isR 36893488147419103278 || ev_isN 36893488147419103278) = true from rfl))
  refine wq_aload_n rfl rfl rfl ?_
  obtain ⟨g37, h⟩ := od_gE h
  refine xm_getR (v := 36893488147419103278) (q := 75) rfl rfl (by decide) (by decide) g37 ?_
  refine wq_iconst rfl rfl ?_
  refine wq_iconst rfl rfl ?_
  refine wq_aload_n rfl rfl rfl ?_
  refine xm_getR (v := 36893488147419103243) (q := 75) rfl rfl (by decide) (by decide) (T36.r (k := 75) 0 10 rfl (by decide) rfl) ?_
  refine xm_getR (v := 36893488147419103249) (q := 11) rfl rfl (by decide) (by decide) (T36.r (k := 11) 7 16 rfl (by decide) rfl) ?_
  refine wq_iconst rfl rfl ?_
  obtain ⟨g38, h⟩ := od_gE h
  refine wq_iaload (q := 17) (n := 50) rfl rfl (by decide) g38 (by decide) ?_
  refine wq_iconst rfl rfl ?_
  refine wq_iconst rfl rfl ?_
  refine wq_iconst rfl rfl ?_
  refine wq_iconst rfl rfl ?_
  obtain ⟨y39, e40, h⟩ := od_bindE h
  refine wd_virtN (q := 46) (y := y39) (as := [36893488147419103278, 0, 0, F34 17 0, 0, 0, 4294967295, 0]) rfl rfl rfl (by decide) (Nat.le_of_ble_eq_true rfl) (Nat.le_of_ble_eq_true rfl) rfl (Nat.le_of_ble_eq_true rfl) rfl (dkT_70 T36 (wm_zlt (by decide)) (wm_zlt (by decide)) (T36.ai (k := 17) rfl g38) (wm_zlt (by decide)) (wm_zlt (by decide)) (by decide) (wm_zlt (by decide)) e40) (fun T42 => ?_)
  exact wq_ret rfl (wkON h T42)
/-- X11_compile -/
def dk_48x (n : Nat) (F : wq_F) : Option (Nat × wq_F) :=
  (dk_49 F).bind fun y1 =>
  (dk_76 n y1.2 (y1.2 0 8)).bind fun y5 =>
  if y5.1 = 0 then
    od_up y5.2 0 10 4294967295 fun F10 =>
    od_up F10 0 11 4294967295 fun F13 =>
    od_up F13 0 9 1 fun F16 =>
    (dk_88 n F16).bind fun y19 =>
    some (y19.2 11 14, y19.2)
  else
    od_up y5.2 0 10 (y5.2 56 5) fun F23 =>
    od_up F23 0 11 (F23 56 6) fun F26 =>
    some (ev_oNeg y5.1, F26)
theorem dkT_48x {d n : Nat} {F : wq_F} (hT : xm_T F) {x : Nat × wq_F} (h : dk_48x n F = some x) : mq (d + n + 13 + 1) 48 [36893488147419103232] xm_sh F (wkI xm_T xm_sh x) := by
  have e : ev_ent [36893488147419103232] = [36893488147419103232] := by
    rfl
  refine mq_of (maxL := 2) (rt := (some .int)) (code := (ev_un al_mX11_compile.2.2.2.2)) (L := [36893488147419103232, 73786976294838206464]) rfl (by rw [e]; exact Nat.le_of_ble_eq_true rfl) (by rw [e]; rfl) ?_
  unfold dk_48x at h
  refine wq_aload_n rfl rfl rfl ?_
  obtain ⟨y1, e2, h⟩ := od_bindE h
  refine wd_virtN (q := 0) (y := y1) (as := [36893488147419103232]) rfl rfl rfl (by decide) (Nat.le_of_ble_eq_true rfl) (Nat.le_of_ble_eq_true rfl) rfl (Nat.le_of_ble_eq_true rfl) rfl (dkT_49 hT e2) (fun T4 => ?_)
  refine wq_aload_n rfl rfl rfl ?_
  refine xm_getR (v := 36893488147419103288) (q := 0) rfl rfl (by decide) (by decide) (T4.r (k := 0) 5 55 rfl (by decide) rfl) ?_
  refine wq_aload_n rfl rfl rfl ?_
  refine xm_getI (q := 0) rfl rfl (by decide) (by decide) ?_
  obtain ⟨y5, e6, h⟩ := od_bindE h
  refine wd_virtI (q := 56) (y := y5) (as := [36893488147419103288, y1.2 0 8]) rfl rfl rfl (by decide) (Nat.le_of_ble_eq_true rfl) (Nat.le_of_ble_eq_true rfl) rfl (Nat.le_of_ble_eq_true rfl) rfl (dkT_76 T4 (T4.i (k := 0) 8 rfl (by decide) rfl) e6) (fun p7 T8 => ?_)
  refine wq_istore_n rfl p7 (Nat.le_of_ble_eq_true rfl) (Or.inr ⟨_, rfl, rfl⟩) (L' := [36893488147419103232, y5.1]) rfl ?_
  refine wq_iload_n rfl rfl p7 ?_
  refine wq_if_eq rfl rfl p7 (fun h9 => ?_) (fun h9 => ?_)
  · replace h := od_pos h h9
    refine wq_aload_n rfl rfl rfl ?_
    refine wq_iconst rfl rfl ?_
    obtain ⟨F10, e11, h⟩ := od_upE h
    refine xmE_put (q := 0) rfl rfl (by decide) (by decide) (wq_I (by decide)) e11 ?_
    have T12 : xm_T F10 := wd_T e11 (T8.uf (k := 0) (f := 10) (c := 0) (v := 4294967295) rfl (by decide) rfl (show 4294967295 < 4294967296 from (by decide)))
    refine wq_aload_n rfl rfl rfl ?_
    refine wq_iconst rfl rfl ?_
    obtain ⟨F13, e14, h⟩ := od_upE h
    refine xmE_put (q := 0) rfl rfl (by decide) (by decide) (wq_I (by decide)) e14 ?_
    have T15 : xm_T F13 := wd_T e14 (T12.uf (k := 0) (f := 11) (c := 0) (v := 4294967295) rfl (by decide) rfl (show 4294967295 < 4294967296 from (by decide)))
    refine wq_aload_n rfl rfl rfl ?_
    refine wq_iconst rfl rfl ?_
    obtain ⟨F16, e17, h⟩ := od_upE h
    refine xmE_put (q := 0) rfl rfl (by decide) (by decide) (wm_fitZ (by decide)) e17 ?_
    have T18 : xm_T F16 := wd_T e17 (T15.uf (k := 0) (f := 9) (c := 2) (v := 1) rfl (by decide) rfl (show 1 < 2 from (by decide)))
    refine wq_aload_n rfl rfl rfl ?_
    refine xm_getR (v := 36893488147419103307) (q := 0) rfl rfl (by decide) (by decide) (T18.r (k := 0) 7 74 rfl (by decide) rfl) ?_
    obtain ⟨y19, e20, h⟩ := od_bindE h
    refine wd_virtN (q := 75) (y := y19) (as := [36893488147419103307]) rfl rfl rfl (by decide) (Nat.le_of_ble_eq_true rfl) (Nat.le_of_ble_eq_true rfl) rfl (Nat.le_of_ble_eq_true rfl) rfl (dkT_88 T18 e20) (fun T22 => ?_)
    refine wq_aload_n rfl rfl rfl ?_
    refine xm_getR (v := 36893488147419103243) (q := 0) rfl rfl (by decide) (by decide) (T22.r (k := 0) 2 10 rfl (by decide) rfl) ?_
    refine xm_getI (q := 11) rfl rfl (by decide) (by decide) ?_
    exact wq_iret rfl (T22.i (k := 11) 14 rfl (by decide) rfl) rfl (wkOI h T22 (T22.i (k := 11) 14 rfl (by decide) rfl))
  · replace h := od_neg h h9
    refine wq_aload_n rfl rfl rfl ?_
    refine wq_aload_n rfl rfl rfl ?_
    refine xm_getR (v := 36893488147419103288) (q := 0) rfl rfl (by decide) (by decide) (T8.r (k := 0) 5 55 rfl (by decide) rfl) ?_
    refine xm_getI (q := 56) rfl rfl (by decide) (by decide) ?_
    obtain ⟨F23, e24, h⟩ := od_upE h
    refine xmE_put (q := 0) rfl rfl (by decide) (by decide) (wq_I (T8.i (k := 56) 5 rfl (by decide) rfl)) e24 ?_
    have T25 : xm_T F23 := wd_T e24 (T8.uf (k := 0) (f := 10) (c := 0) (v := y5.2 56 5) rfl (by decide) rfl (show y5.2 56 5 < 4294967296 from (T8.i (k := 56) 5 rfl (by decide) rfl)))
    refine wq_aload_n rfl rfl rfl ?_
    refine wq_aload_n rfl rfl rfl ?_
    refine xm_getR (v := 36893488147419103288) (q := 0) rfl rfl (by decide) (by decide) (T25.r (k := 0) 5 55 rfl (by decide) rfl) ?_
    refine xm_getI (q := 56) rfl rfl (by decide) (by decide) ?_
    obtain ⟨F26, e27, h⟩ := od_upE h
    refine xmE_put (q := 0) rfl rfl (by decide) (by decide) (wq_I (T25.i (k := 56) 6 rfl (by decide) rfl)) e27 ?_
    have T28 : xm_T F26 := wd_T e27 (T25.uf (k := 0) (f := 11) (c := 0) (v := F23 56 6) rfl (by decide) rfl (show F23 56 6 < 4294967296 from (T25.i (k := 56) 6 rfl (by decide) rfl)))
    refine wq_iload_n rfl rfl p7 ?_
    refine wq_ineg rfl p7 ?_
    exact wq_iret rfl (Nat.mod_lt _ (by decide)) rfl (wkOI h T28 (Nat.mod_lt _ (by decide)))
