/-! ===== a80: the class's compile as a function on memories, up to the reset (by wip/whole2/lawa80.py, dc.py): 49 X11_forget, 48 X11_compile ===== -/
/-- X11_forget -/
def dk_49 (F : wq_F) : Option (Nat × wq_F) :=
  od_up F 0 9 0 fun F1 =>
  some (0, F1)
theorem dkT_49 {d : Nat} {F : wq_F} (hT : xm_T F) {x : Nat × wq_F} (h : dk_49 F = some x) : mq (d + 0 + 1) 49 [36893488147419103232] xm_sh F (wkN xm_T xm_sh x) := by
  have e : ev_ent [36893488147419103232] = [36893488147419103232] := by
    rfl
  refine mq_of (maxL := 1) (rt := none) (code := (ev_un al_mX11_forget.2.2.2.2)) (L := [36893488147419103232]) rfl (by rw [e]; exact Nat.le_of_ble_eq_true rfl) (by rw [e]; rfl) ?_
  unfold dk_49 at h
  refine wq_aload_n rfl rfl rfl ?_
  refine wq_iconst rfl rfl ?_
  obtain ⟨F1, e2, h⟩ := od_upE h
  refine xmE_put (q := 0) rfl rfl (by decide) (by decide) (wm_fitZ (by decide)) e2 ?_
  have T3 : xm_T F1 := wd_T e2 (hT.uf (k := 0) (f := 9) (c := 2) (v := 0) rfl (by decide) rfl (show 0 < 2 from (by decide)))
  exact wq_ret rfl (wkON h T3)
/-- X11_compile -/
def dk_48 (n : Nat) (F : wq_F) : Option (Nat × wq_F) :=
  (dk_49 F).bind fun y1 =>
  (dk_76 n y1.2 (y1.2 0 8)).bind fun y5 =>
  if y5.1 = 0 then
    od_up y5.2 0 10 4294967295 fun F10 =>
    od_up F10 0 11 4294967295 fun F13 =>
    od_up F13 0 9 1 fun F16 =>
    none
  else
    od_up y5.2 0 10 (y5.2 56 5) fun F19 =>
    od_up F19 0 11 (F19 56 6) fun F22 =>
    some (ev_oNeg y5.1, F22)
theorem dkT_48 {d n : Nat} {F : wq_F} (hT : xm_T F) {x : Nat × wq_F} (h : dk_48 n F = some x) : mq (d + n + 13 + 1) 48 [36893488147419103232] xm_sh F (wkI xm_T xm_sh x) := by
  have e : ev_ent [36893488147419103232] = [36893488147419103232] := by
    rfl
  refine mq_of (maxL := 2) (rt := (some .int)) (code := (ev_un al_mX11_compile.2.2.2.2)) (L := [36893488147419103232, 73786976294838206464]) rfl (by rw [e]; exact Nat.le_of_ble_eq_true rfl) (by rw [e]; rfl) ?_
  unfold dk_48 at h
  refine wq_aload_n rfl rfl rfl ?_
  obtain ⟨y1, e2, h⟩ := od_bindE h
  refine wd_virtN (q := 0) (y := y1) (as := [36893488147419103232]) rfl rfl rfl (by decide) (Nat.le_of_ble_eq_true rfl) (Nat.le_of_ble_eq_true rfl) rfl (Nat.le_of_ble_eq_true rfl) rfl (dkT_49 hT e2) (fun T4 => ?_)
  refine wq_aload_n rfl rfl rfl ?_
  refine xm_getR (v := 36893488147419103288) (q := 0) rfl rfl (by decide) (by decide) (T4.r (k := 0) 5 55 rfl (by decide) rfl) ?_
  refine wq_aload_n rfl rfl rfl ?_
  refine xm_getI (q := 0) rfl rfl (by decide) (by decide) ?_
  obtain ⟨y5, e6, h⟩ := od_bindE h
  refine wd_virtI (q := 56) (y := y5) (as := [36893488147419103288, y1.2 0 8]) rfl rfl rfl (by decide) (Nat.le_of_ble_eq_true rfl) (Nat.le_of_ble_eq_true rfl) rfl (Nat.le_of_ble_eq_true rfl) rfl (dkT_76 T4 (T4.i (k := 0) 8 rfl (by decide) rfl) e6) (fun p7 T8 => ?_)
  refine wq_istore_n rfl p7 (Nat.le_of_ble_eq_true rfl) (Or.inr ⟨_, rfl, rfl⟩) (L' := [36893488147419103232, y5.1]) rfl ?_
  refine wq_iload_n rfl rfl p7 ?_
  refine wq_if_eq rfl rfl p7 (fun h9 => ?_) (fun h9 => ?_)
  · replace h := od_pos h h9
    refine wq_aload_n rfl rfl rfl ?_
    refine wq_iconst rfl rfl ?_
    obtain ⟨F10, e11, h⟩ := od_upE h
    refine xmE_put (q := 0) rfl rfl (by decide) (by decide) (wq_I (by decide)) e11 ?_
    have T12 : xm_T F10 := wd_T e11 (T8.uf (k := 0) (f := 10) (c := 0) (v := 4294967295) rfl (by decide) rfl (show 4294967295 < 4294967296 from (by decide)))
    refine wq_aload_n rfl rfl rfl ?_
    refine wq_iconst rfl rfl ?_
    obtain ⟨F13, e14, h⟩ := od_upE h
    refine xmE_put (q := 0) rfl rfl (by decide) (by decide) (wq_I (by decide)) e14 ?_
    have T15 : xm_T F13 := wd_T e14 (T12.uf (k := 0) (f := 11) (c := 0) (v := 4294967295) rfl (by decide) rfl (show 4294967295 < 4294967296 from (by decide)))
    refine wq_aload_n rfl rfl rfl ?_
    refine wq_iconst rfl rfl ?_
    obtain ⟨F16, e17, h⟩ := od_upE h
    refine xmE_put (q := 0) rfl rfl (by decide) (by decide) (wm_fitZ (by decide)) e17 ?_
    have T18 : xm_T F16 := wd_T e17 (T15.uf (k := 0) (f := 9) (c := 2) (v := 1) rfl (by decide) rfl (show 1 < 2 from (by decide)))
    refine wq_aload_n rfl rfl rfl ?_
    refine xm_getR (v := 36893488147419103307) (q := 0) rfl rfl (by decide) (by decide) (T18.r (k := 0) 7 74 rfl (by decide) rfl) ?_
    exact nomatch h
  · replace h := od_neg h h9
    refine wq_aload_n rfl rfl rfl ?_
    refine wq_aload_n rfl rfl rfl ?_
    refine xm_getR (v := 36893488147419103288) (q := 0) rfl rfl (by decide) (by decide) (T8.r (k := 0) 5 55 rfl (by decide) rfl) ?_
    refine xm_getI (q := 56) rfl rfl (by decide) (by decide) ?_
    obtain ⟨F19, e20, h⟩ := od_upE h
    refine xmE_put (q := 0) rfl rfl (by decide) (by decide) (wq_I (T8.i (k := 56) 5 rfl (by decide) rfl)) e20 ?_
    have T21 : xm_T F19 := wd_T e20 (T8.uf (k := 0) (f := 10) (c := 0) (v := y5.2 56 5) rfl (by decide) rfl (show y5.2 56 5 < 4294967296 from (T8.i (k := 56) 5 rfl (by decide) rfl)))
    refine wq_aload_n rfl rfl rfl ?_
    refine wq_aload_n rfl rfl rfl ?_
    refine xm_getR (v := 36893488147419103288) (q := 0) rfl rfl (by decide) (by decide) (T21.r (k := 0) 5 55 rfl (by decide) rfl) ?_
    refine xm_getI (q := 56) rfl rfl (by decide) (by decide) ?_
    obtain ⟨F22, e23, h⟩ := od_upE h
    refine xmE_put (q := 0) rfl rfl (by decide) (by decide) (wq_I (T21.i (k := 56) 6 rfl (by decide) rfl)) e23 ?_
    have T24 : xm_T F22 := wd_T e23 (T21.uf (k := 0) (f := 11) (c := 0) (v := F19 56 6) rfl (by decide) rfl (show F19 56 6 < 4294967296 from (T21.i (k := 56) 6 rfl (by decide) rfl)))
    refine wq_iload_n rfl rfl p7 ?_
    refine wq_ineg rfl p7 ?_
    exact wq_iret rfl (Nat.mod_lt _ (by decide)) rfl (wkOI h T24 (Nat.mod_lt _ (by decide)))
