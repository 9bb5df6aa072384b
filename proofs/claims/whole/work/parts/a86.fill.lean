/-! ===== a86: java.util.Arrays.fill over a row of the class (wip/whole2/lawa86.py) ===== -/
def fl_up (F : wq_F) (q m v : Nat) : wq_F := fun c j => if c = q ∧ j < m then v else F c j
theorem fl_0 {F : wq_F} {q v : Nat} : fl_up F q 0 v = F := funext fun c => funext fun j => if_neg (fun z => Nat.not_lt_zero _ z.2)
theorem fl_s {F : wq_F} {q m v : Nat} : wq_up (fl_up F q m v) q m v = fl_up F q (m + 1) v := funext fun c => funext fun j => by
  by_cases z : c = q ∧ j = m
  · rw [z.1, z.2, wq_up_same]
    exact (if_pos ⟨rfl, Nat.lt_succ_self _⟩).symm
  · rw [wq_up_ne z]
    unfold fl_up
    by_cases y : c = q ∧ j < m
    · rw [if_pos y, if_pos ⟨y.1, Nat.lt_succ_of_lt y.2⟩]
    · rw [if_neg y, if_neg (fun x => by
        by_cases w : j = m
        · exact z ⟨x.1, w⟩
        · exact y ⟨x.1, by omega⟩)]
theorem jf_T1 {F : wq_F} {v : Nat} (hT : xm_T F) (hv : v < 4294967296) : ∀ m, m ≤ 4096 → xm_T (fl_up F 36 m v)
  | 0, _ => by
    rw [fl_0]
    exact hT
  | m + 1, h => by
    rw [← fl_s]
    exact (jf_T1 hT hv m (by omega)).ua (k := 36) (kd := 1000) (n := 4096) (i := m) (v := v) rfl (by decide) (by omega) (show v < 4294967296 from hv)
theorem jf_104 {d v : Nat} {F : wq_F} (hT : xm_T F) (hv : v < 4294967296) : mq (d + 1) 104 [36893488147419103268, v] xm_sh F (wkN xm_T xm_sh (0, fl_up F 36 4096 v)) := by
  have e : ev_ent [36893488147419103268, v] = [36893488147419103268, v] := by
    show 36893488147419103268 :: ev_ent [v] = _
    rw [wm_entI hv]
    rfl
  have J : ∀ k i, i + k = 4096 → wq (wq_cf d) (ev_un al_mJ7_fill_53178.2.2.2.2) none 5 [36893488147419103268, v, i, 4096] [] xm_sh (fl_up F 36 i v) 0 0 (wkN xm_T xm_sh (0, fl_up F 36 4096 v)) := by
    intro k
    induction k with
    | zero =>
      intro i hi
      have hi' : i = 4096 := by omega
      subst hi'
      refine wq_iload_n rfl rfl (by decide) ?_
      refine wq_iload_n rfl rfl (by decide) ?_
      refine wq_ic_ge rfl rfl (by decide) (by decide) (fun _ => ?_) (fun h => absurd ((wd_slt (by decide) (by decide)).mp h) (by decide))
      exact wq_ret rfl (wkON rfl (jf_T1 hT hv 4096 (Nat.le_refl _)))
    | succ k ih =>
      intro i hi
      refine wq_iload_n rfl rfl (by omega) ?_
      refine wq_iload_n rfl rfl (by decide) ?_
      refine wq_ic_ge rfl rfl (by omega) (by decide) (fun h => ?_) (fun _ => ?_)
      · have y := (wd_slt (x := i) (y := 4096) (by omega) (by decide)).mpr (by omega)
        omega
      refine wq_aload_n rfl rfl rfl ?_
      refine wq_iload_n rfl rfl (by omega) ?_
      refine wq_iload_n rfl rfl hv ?_
      refine wq_iastore (q := 36) (n := 4096) rfl rfl (by decide) (by omega) (by decide) hv ?_
      refine wq_iincZ rfl rfl (by omega) (Or.inr ⟨_, rfl, wq_notL hv⟩) rfl (z := i + 1) (Nat.mod_eq_of_lt (by omega)) (L' := [36893488147419103268, v, i + 1, 4096]) rfl ?_
      refine wq_goto rfl rfl ?_
      rw [fl_s]
      exact ih (i + 1) (by omega)
  refine mq_of (maxL := 4) (rt := none) (code := (ev_un al_mJ7_fill_53178.2.2.2.2)) (L := [36893488147419103268, v, 73786976294838206464, 73786976294838206464]) rfl (by rw [e]; exact Nat.le_of_ble_eq_true rfl) (by rw [e]; rfl) ?_
  refine wq_iconst rfl rfl ?_
  refine wq_istore_n rfl (by decide) (Nat.le_of_ble_eq_true rfl) (Or.inr ⟨_, rfl, wq_notL hv⟩) (L' := [36893488147419103268, v, 0, 73786976294838206464]) rfl ?_
  refine wq_aload_n rfl rfl rfl ?_
  refine wq_alen (q := 36) (kd := 1000) (n := 4096) rfl rfl (by decide) (by decide) (by decide) ?_
  refine wq_istore_n rfl (by decide) (Nat.le_of_ble_eq_true rfl) (Or.inr ⟨_, rfl, rfl⟩) (L' := [36893488147419103268, v, 0, 4096]) rfl ?_
  have j := J 4096 0 (by omega)
  rw [fl_0] at j
  exact j
theorem jf_T2 {F : wq_F} {v : Nat} (hT : xm_T F) (hv : v < 4294967296) : ∀ m, m ≤ 2001 → xm_T (fl_up F 72 m (ev_b8 v))
  | 0, _ => by
    rw [fl_0]
    exact hT
  | m + 1, h => by
    rw [← fl_s]
    exact (jf_T2 hT hv m (by omega)).ua (k := 72) (kd := 1001) (n := 2001) (i := m) (v := (ev_b8 v)) rfl (by decide) (by omega) ⟨ev_b8_lt _, wm_b8b8 _⟩
theorem jf_105 {d v : Nat} {F : wq_F} (hT : xm_T F) (hv : v < 4294967296) : mq (d + 1) 105 [36893488147419103304, v] xm_sh F (wkN xm_T xm_sh (0, fl_up F 72 2001 (ev_b8 v))) := by
  have e : ev_ent [36893488147419103304, v] = [36893488147419103304, v] := by
    show 36893488147419103304 :: ev_ent [v] = _
    rw [wm_entI hv]
    rfl
  have J : ∀ k i, i + k = 2001 → wq (wq_cf d) (ev_un al_mJ7_fill_031fb.2.2.2.2) none 5 [36893488147419103304, v, i, 2001] [] xm_sh (fl_up F 72 i (ev_b8 v)) 0 0 (wkN xm_T xm_sh (0, fl_up F 72 2001 (ev_b8 v))) := by
    intro k
    induction k with
    | zero =>
      intro i hi
      have hi' : i = 2001 := by omega
      subst hi'
      refine wq_iload_n rfl rfl (by decide) ?_
      refine wq_iload_n rfl rfl (by decide) ?_
      refine wq_ic_ge rfl rfl (by decide) (by decide) (fun _ => ?_) (fun h => absurd ((wd_slt (by decide) (by decide)).mp h) (by decide))
      exact wq_ret rfl (wkON rfl (jf_T2 hT hv 2001 (Nat.le_refl _)))
    | succ k ih =>
      intro i hi
      refine wq_iload_n rfl rfl (by omega) ?_
      refine wq_iload_n rfl rfl (by decide) ?_
      refine wq_ic_ge rfl rfl (by omega) (by decide) (fun h => ?_) (fun _ => ?_)
      · have y := (wd_slt (x := i) (y := 2001) (by omega) (by decide)).mpr (by omega)
        omega
      refine wq_aload_n rfl rfl rfl ?_
      refine wq_iload_n rfl rfl (by omega) ?_
      refine wq_iload_n rfl rfl hv ?_
      refine wq_bastore (q := 72) (n := 2001) rfl rfl (by decide) (by omega) (by decide) hv ?_
      refine wq_iincZ rfl rfl (by omega) (Or.inr ⟨_, rfl, wq_notL hv⟩) rfl (z := i + 1) (Nat.mod_eq_of_lt (by omega)) (L' := [36893488147419103304, v, i + 1, 2001]) rfl ?_
      refine wq_goto rfl rfl ?_
      rw [fl_s]
      exact ih (i + 1) (by omega)
  refine mq_of (maxL := 4) (rt := none) (code := (ev_un al_mJ7_fill_031fb.2.2.2.2)) (L := [36893488147419103304, v, 73786976294838206464, 73786976294838206464]) rfl (by rw [e]; exact Nat.le_of_ble_eq_true rfl) (by rw [e]; rfl) ?_
  refine wq_iconst rfl rfl ?_
  refine wq_istore_n rfl (by decide) (Nat.le_of_ble_eq_true rfl) (Or.inr ⟨_, rfl, wq_notL hv⟩) (L' := [36893488147419103304, v, 0, 73786976294838206464]) rfl ?_
  refine wq_aload_n rfl rfl rfl ?_
  refine wq_alen (q := 72) (kd := 1001) (n := 2001) rfl rfl (by decide) (by decide) (by decide) ?_
  refine wq_istore_n rfl (by decide) (Nat.le_of_ble_eq_true rfl) (Or.inr ⟨_, rfl, rfl⟩) (L' := [36893488147419103304, v, 0, 2001]) rfl ?_
  have j := J 2001 0 (by omega)
  rw [fl_0] at j
  exact j
