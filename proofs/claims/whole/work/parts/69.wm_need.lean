/-! ===== 69: the reference's parser: needSign, needWord, lineHere (by wip/whole2/law69.py) ===== -/
theorem wv_take2 (F : wq_F) : wv_take F < 2 := by
  unfold wv_take
  split <;> decide
theorem wv_tok2 (F : wq_F) (k c : Nat) : wv_tok F k c < 2 := by
  unfold wv_tok
  split <;> decide
theorem wf_take_T {F : wq_F} (hT : wm_T F) (hti : F 0 25 < 1502) : wm_T (wf_take F) := by
  unfold wf_take
  split
  · exact wf_fail_T hT (by decide) (hT.ai (k := 10) rfl hti)
  · split
    · exact wf_fail_T hT (by decide) (hT.ai (k := 10) rfl hti)
    · exact hT.uf (f := 25) (c := 0) rfl (show F 0 25 + 1 < 4294967296 by omega)
theorem wf_wrong_T {F : wq_F} (hT : wm_T F) (hti : F 0 25 < 1502) : wm_T (wf_wrong F) := by
  unfold wf_wrong
  refine wf_fail_T hT ?_ (hT.ai (k := 10) rfl hti)
  split <;> decide
def wf_need (F : wq_F) (k c : Nat) : wq_F := if wv_tok F k c = 0 then wf_wrong F else wf_take F
def wv_need (F : wq_F) (k c : Nat) : Nat := if wv_tok F k c = 0 then 0 else wv_take F
theorem lx_lines_lt (T : Nat → Nat) (m p : Nat) : ∀ f n k : Nat, n + f < 4294967296 → lx_lines T m p f n k < 4294967296
  | 0, n, k, h => h
  | f + 1, n, k, h => by
    by_cases q : k < p ∧ k < m
    · rw [lx_lines_s q.1 q.2]
      by_cases q2 : T k = 10
      · rw [if_pos q2]; exact lx_lines_lt T m p f (n + 1) (k + 1) (by omega)
      · rw [if_neg q2]; exact lx_lines_lt T m p f n (k + 1) (by omega)
    · rw [lx_lines_e q]; omega
theorem wm_needSign {F : wq_F} (hT : wm_T F) (hti : F 0 25 < 1502) {d c : Nat} (hc : c < 4294967296) : mq (d + 3) 213 [36893488147419103232, c] wm_sh F (wq_k (some (wv_need F 5 c)) wm_sh (wf_need F 5 c)) := by
  have e : ev_ent [36893488147419103232, c] = [36893488147419103232, c] := by
    show 36893488147419103232 :: ev_ent [c] = _
    rw [wm_entI hc]
    rfl
  refine mq_of (maxL := 2) (rt := (some .boolean)) (code := (ev_un al_mX12_needSign.2.2.2.2)) (L := [36893488147419103232, c]) rfl (by rw [e]; exact Nat.le_of_ble_eq_true rfl) (by rw [e]; rfl) ?_
  refine wq_aload_n rfl rfl rfl ?_
  refine wq_iload_n rfl rfl hc ?_
  refine wm_virtI (x := wv_tok F 5 c) (as := [36893488147419103232, c]) rfl rfl (by decide) (Nat.le_of_ble_eq_true rfl) rfl (Nat.le_of_ble_eq_true rfl) rfl (wm_isSign hT hti hc) ?_
  refine wq_if_eq rfl rfl (wm_zlt (wv_tok2 F 5 c)) (fun h1 => ?_) (fun h1 => ?_)
  · skip
    refine wq_aload_n rfl rfl rfl ?_
    refine wm_virtI (x := 0) (as := [36893488147419103232]) rfl rfl (by decide) (Nat.le_of_ble_eq_true rfl) rfl (Nat.le_of_ble_eq_true rfl) rfl (wm_wrong hT hti) ?_
    refine wq_iret rfl (by decide) rfl ?_
    unfold wv_need wf_need
    rw [if_pos (by omega), if_pos (by omega)]
    exact wq_k0
  · skip
    refine wq_aload_n rfl rfl rfl ?_
    refine wm_virtI (x := wv_take F) (as := [36893488147419103232]) rfl rfl (by decide) (Nat.le_of_ble_eq_true rfl) rfl (Nat.le_of_ble_eq_true rfl) rfl (wm_take hT hti) ?_
    refine wq_goto rfl rfl ?_
    refine wq_iret rfl (wm_zlt (wv_take2 F)) (Nat.blt_eq.mpr (wv_take2 F)) ?_
    unfold wv_need wf_need
    rw [if_neg (by omega), if_neg (by omega)]
    exact wq_k0
theorem wm_needWord {F : wq_F} (hT : wm_T F) (hti : F 0 25 < 1502) {d c : Nat} (hc : c < 4294967296) : mq (d + 3) 214 [36893488147419103232, c] wm_sh F (wq_k (some (wv_need F 4 c)) wm_sh (wf_need F 4 c)) := by
  have e : ev_ent [36893488147419103232, c] = [36893488147419103232, c] := by
    show 36893488147419103232 :: ev_ent [c] = _
    rw [wm_entI hc]
    rfl
  refine mq_of (maxL := 2) (rt := (some .boolean)) (code := (ev_un al_mX12_needWord.2.2.2.2)) (L := [36893488147419103232, c]) rfl (by rw [e]; exact Nat.le_of_ble_eq_true rfl) (by rw [e]; rfl) ?_
  refine wq_aload_n rfl rfl rfl ?_
  refine wq_iload_n rfl rfl hc ?_
  refine wm_virtI (x := wv_tok F 4 c) (as := [36893488147419103232, c]) rfl rfl (by decide) (Nat.le_of_ble_eq_true rfl) rfl (Nat.le_of_ble_eq_true rfl) rfl (wm_isWord hT hti hc) ?_
  refine wq_if_eq rfl rfl (wm_zlt (wv_tok2 F 4 c)) (fun h1 => ?_) (fun h1 => ?_)
  · skip
    refine wq_aload_n rfl rfl rfl ?_
    refine wm_virtI (x := 0) (as := [36893488147419103232]) rfl rfl (by decide) (Nat.le_of_ble_eq_true rfl) rfl (Nat.le_of_ble_eq_true rfl) rfl (wm_wrong hT hti) ?_
    refine wq_iret rfl (by decide) rfl ?_
    unfold wv_need wf_need
    rw [if_pos (by omega), if_pos (by omega)]
    exact wq_k0
  · skip
    refine wq_aload_n rfl rfl rfl ?_
    refine wm_virtI (x := wv_take F) (as := [36893488147419103232]) rfl rfl (by decide) (Nat.le_of_ble_eq_true rfl) rfl (Nat.le_of_ble_eq_true rfl) rfl (wm_take hT hti) ?_
    refine wq_goto rfl rfl ?_
    refine wq_iret rfl (wm_zlt (wv_take2 F)) (Nat.blt_eq.mpr (wv_take2 F)) ?_
    unfold wv_need wf_need
    rw [if_neg (by omega), if_neg (by omega)]
    exact wq_k0
theorem wm_lineHere {F : wq_F} (hT : wm_T F) (hti : F 0 25 < 1502) (hn : F 0 2 ≤ 6000) (hpl : F 10 (F 0 25) < 2147483648) {d : Nat} : mq (d + 2) 215 [36893488147419103232] wm_sh F (wq_k (some (lx_lines (F 1) (F 0 2) (F 10 (F 0 25)) (F 0 2) 1 0)) wm_sh F) := by
  have e : ev_ent [36893488147419103232] = [36893488147419103232] := by
    rfl
  refine mq_of (maxL := 1) (rt := (some .int)) (code := (ev_un al_mX12_lineHere.2.2.2.2)) (L := [36893488147419103232]) rfl (by rw [e]; exact Nat.le_of_ble_eq_true rfl) (by rw [e]; rfl) ?_
  refine wq_aload_n rfl rfl rfl ?_
  refine wq_aload_n rfl rfl rfl ?_
  refine wm_virtI (x := F 10 (F 0 25)) (as := [36893488147419103232]) rfl rfl (by decide) (Nat.le_of_ble_eq_true rfl) rfl (Nat.le_of_ble_eq_true rfl) rfl (wm_here hT hti) ?_
  refine wm_virtI (x := lx_lines (F 1) (F 0 2) (F 10 (F 0 25)) (F 0 2) 1 0) (as := [36893488147419103232, F 10 (F 0 25)]) rfl rfl (by decide) (Nat.le_of_ble_eq_true rfl) rfl (Nat.le_of_ble_eq_true rfl) rfl (wm_lineOf hT hn hpl) ?_
  refine wq_iret rfl (lx_lines_lt _ _ _ _ _ _ (by omega)) rfl ?_
  exact wq_k0
