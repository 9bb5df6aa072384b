/-! ===== 56: the reference's text ===== -/
theorem wm_entI {x : Nat} {l : List Nat} (h : x < 4294967296) : ev_ent (x :: l) = x :: ev_ent l := by
  simp only [ev_ent, wq_notL h, cond_false]
theorem wm_at {F : wq_F} (hT : wm_T F) {d j : Nat} (hj : j < 2147483648) (hn : F 0 2 ≤ 6000) : mq (d + 1) 28 [36893488147419103232, j] wm_sh F (wq_k (some (if j < F 0 2 then F 1 j else 4294967295)) wm_sh F) := by
  have hj2 : j < 4294967296 := by omega
  have e : ev_ent [36893488147419103232, j] = [36893488147419103232, j] := by
    show 36893488147419103232 :: ev_ent [j] = _
    rw [wm_entI hj2]
    rfl
  refine mq_of (maxL := 2) (rt := some .int) (code := ev_un al_mX12_at.2.2.2.2) (L := [36893488147419103232, j]) rfl (by rw [e]; exact Nat.le_refl 2) (by rw [e]; rfl) ?_
  refine wq_iload_n rfl rfl hj2 ?_
  refine wq_aload_n rfl rfl rfl ?_
  refine wm_getI rfl (by decide) ?_
  refine wq_ic_ge rfl rfl hj2 (hT.i 2 rfl) (fun h => ?_) (fun h => ?_)
  · refine wq_iconst rfl rfl ?_
    refine wq_iret rfl (by decide) rfl ?_
    rw [if_neg (by unfold ev_s at h; omega)]
    exact wq_k0
  · have h2 : j < F 0 2 := by unfold ev_s at h; omega
    refine wq_aload_n rfl rfl rfl ?_
    refine wm_getR (v := 36893488147419103233) rfl (by decide) (hT.r 1 0 rfl) ?_
    refine wq_iload_n rfl rfl hj2 ?_
    refine wq_iaload (q := 1) (n := 6000) rfl rfl (by decide) (by omega) (by decide) ?_
    refine wq_goto rfl rfl ?_
    refine wq_iret rfl (hT.ai (k := 1) rfl (show j < 6000 by omega)) rfl ?_
    rw [if_pos h2]
    exact wq_k0
