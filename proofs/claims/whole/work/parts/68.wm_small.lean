/-! ===== 68: the reference's parser: here, fail, wrong, take, enter, isSign, isWord, emit, later (by wip/whole2/law68.py) ===== -/
/-- the first fault counts -/
def wf_fail (F : wq_F) (c q : Nat) : wq_F := if F 0 4 = 0 then wq_up (wq_up F 0 4 c) 0 5 q else F
theorem wf_fail_T {F : wq_F} (hT : wm_T F) {c q : Nat} (hc : c < 4294967296) (hq : q < 4294967296) : wm_T (wf_fail F c q) := by
  unfold wf_fail
  split
  · exact (hT.uf (f := 4) (c := 0) (v := c) rfl hc).uf (f := 5) (c := 0) (v := q) rfl hq
  · exact hT
/-- the kind, the place of the token that is read -/
abbrev wf_kind (F : wq_F) : Nat := F 9 (F 0 25)
abbrev wf_here (F : wq_F) : Nat := F 10 (F 0 25)
def wf_wrong (F : wq_F) : wq_F := wf_fail F (if wf_kind F = 7 then 1 else 2) (wf_here F)
def wf_take (F : wq_F) : wq_F := if wf_kind F = 7 then wf_fail F 1 (wf_here F) else if F 0 25 = 1500 then wf_fail F 3 (wf_here F) else wq_up F 0 25 (F 0 25 + 1)
def wv_take (F : wq_F) : Nat := if wf_kind F = 7 ∨ F 0 25 = 1500 then 0 else 1
def wf_enter (F : wq_F) : wq_F := if F 0 47 = 20 then wf_fail F 3 (wf_here F) else wq_up F 0 47 (F 0 47 + 1)
def wv_enter (F : wq_F) : Nat := if F 0 47 = 20 then 0 else 1
def wv_tok (F : wq_F) (k c : Nat) : Nat := if wf_kind F = k ∧ ev_oCmpL (18446744073709551616 + F 11 (F 0 25) - 18446744073709551616) (ev_oI2l c - 18446744073709551616) = 0 then 1 else 0
def wf_emit (F : wq_F) (o a b n : Nat) : wq_F := wq_up (wq_up (wq_up (wq_up (wq_up F 20 (F 0 41) o) 21 (F 0 41) a) 22 (F 0 41) b) 23 (F 0 41) n) 0 41 (F 0 41 + 1)
def wf_later (F : wq_F) (s a b c : Nat) : wq_F := wq_up (wq_up (wq_up (wq_up (wq_up F 25 (F 0 46) s) 26 (F 0 46) a) 27 (F 0 46) b) 28 (F 0 46) c) 0 46 (F 0 46 + 1)
theorem wm_fail {F : wq_F} (hT : wm_T F) {d c q : Nat} (hc : c < 4294967296) (hq : q < 4294967296) : mq (d + 1) 209 [36893488147419103232, c, q] wm_sh F (wq_k (some 0) wm_sh (wf_fail F c q)) := by
  have e : ev_ent [36893488147419103232, c, q] = [36893488147419103232, c, q] := by
    show 36893488147419103232 :: ev_ent [c, q] = _
    rw [wm_entI hc, wm_entI hq]
    rfl
  refine mq_of (maxL := 3) (rt := (some .boolean)) (code := (ev_un al_mX12_fail.2.2.2.2)) (L := [36893488147419103232, c, q]) rfl (by rw [e]; exact Nat.le_of_ble_eq_true rfl) (by rw [e]; rfl) ?_
  refine wq_aload_n rfl rfl rfl ?_
  refine wm_getI rfl (by decide) ?_
  refine wq_if_ne rfl rfl (hT.i 4 rfl) (fun h1 => ?_) (fun h1 => ?_)
  · skip
    refine wq_iconst rfl rfl ?_
    refine wq_iret rfl (by decide) rfl ?_
    unfold wf_fail
    first | exact wq_k0 | (rw [if_pos (by omega)]; exact wq_k0) | (rw [if_neg (by omega)]; exact wq_k0)
  · skip
    refine wq_aload_n rfl rfl rfl ?_
    refine wq_iload_n rfl rfl hc ?_
    refine wm_put rfl (by decide) (wq_I hc) ?_
    have hT2 := hT.uf (f := 4) (c := 0) (v := c) rfl (show c < 4294967296 from hc)
    refine wq_aload_n rfl rfl rfl ?_
    refine wq_iload_n rfl rfl hq ?_
    refine wm_put rfl (by decide) (wq_I hq) ?_
    have hT3 := hT2.uf (f := 5) (c := 0) (v := q) rfl (show q < 4294967296 from hq)
    refine wq_iconst rfl rfl ?_
    refine wq_iret rfl (by decide) rfl ?_
    unfold wf_fail
    first | exact wq_k0 | (rw [if_pos (by omega)]; exact wq_k0) | (rw [if_neg (by omega)]; exact wq_k0)
theorem wm_here {F : wq_F} (hT : wm_T F) (hti : F 0 25 < 1502) {d : Nat} : mq (d + 1) 210 [36893488147419103232] wm_sh F (wq_k (some (wf_here F)) wm_sh F) := by
  have e : ev_ent [36893488147419103232] = [36893488147419103232] := by
    rfl
  refine mq_of (maxL := 1) (rt := (some .int)) (code := (ev_un al_mX12_here.2.2.2.2)) (L := [36893488147419103232]) rfl (by rw [e]; exact Nat.le_of_ble_eq_true rfl) (by rw [e]; rfl) ?_
  refine wq_aload_n rfl rfl rfl ?_
  refine wm_getR (v := 36893488147419103242) rfl (by decide) (hT.r 22 9 rfl) ?_
  refine wq_aload_n rfl rfl rfl ?_
  refine wm_getI rfl (by decide) ?_
  refine wq_iaload (q := 10) (n := 1502) rfl rfl (by decide) (by omega) (by decide) ?_
  refine wq_iret rfl (hT.ai (k := 10) rfl (by omega)) rfl ?_
  exact wq_k0
theorem wm_wrong {F : wq_F} (hT : wm_T F) (hti : F 0 25 < 1502) {d : Nat} : mq (d + 2) 211 [36893488147419103232] wm_sh F (wq_k (some 0) wm_sh (wf_wrong F)) := by
  have e : ev_ent [36893488147419103232] = [36893488147419103232] := by
    rfl
  refine mq_of (maxL := 1) (rt := (some .boolean)) (code := (ev_un al_mX12_wrong.2.2.2.2)) (L := [36893488147419103232]) rfl (by rw [e]; exact Nat.le_of_ble_eq_true rfl) (by rw [e]; rfl) ?_
  refine wq_aload_n rfl rfl rfl ?_
  refine wq_aload_n rfl rfl rfl ?_
  refine wm_getR (v := 36893488147419103241) rfl (by decide) (hT.r 21 8 rfl) ?_
  refine wq_aload_n rfl rfl rfl ?_
  refine wm_getI rfl (by decide) ?_
  refine wq_iaload (q := 9) (n := 1502) rfl rfl (by decide) (by omega) (by decide) ?_
  refine wq_bipush rfl rfl ?_
  refine wq_ic_ne rfl rfl (hT.ai (k := 9) rfl (by omega)) (by decide) (fun h1 => ?_) (fun h1 => ?_)
  · skip
    refine wq_iconst rfl rfl ?_
    refine wq_aload_n rfl rfl rfl ?_
    refine wm_virtI (x := F 10 (F 0 25)) (as := [36893488147419103232]) rfl rfl (by decide) (Nat.le_of_ble_eq_true rfl) rfl (Nat.le_of_ble_eq_true rfl) rfl (wm_here hT hti) ?_
    refine wm_virtI (x := 0) (as := [36893488147419103232, 2, F 10 (F 0 25)]) rfl rfl (by decide) (Nat.le_of_ble_eq_true rfl) rfl (Nat.le_of_ble_eq_true rfl) rfl (wm_fail hT (by decide) (hT.ai (k := 10) rfl hti)) ?_
    refine wq_iret rfl (by decide) rfl ?_
    unfold wf_wrong
    first | exact wq_k0 | (rw [if_pos (by omega)]; exact wq_k0) | (rw [if_neg (by omega)]; exact wq_k0)
  · skip
    refine wq_iconst rfl rfl ?_
    refine wq_goto rfl rfl ?_
    refine wq_aload_n rfl rfl rfl ?_
    refine wm_virtI (x := F 10 (F 0 25)) (as := [36893488147419103232]) rfl rfl (by decide) (Nat.le_of_ble_eq_true rfl) rfl (Nat.le_of_ble_eq_true rfl) rfl (wm_here hT hti) ?_
    refine wm_virtI (x := 0) (as := [36893488147419103232, 1, F 10 (F 0 25)]) rfl rfl (by decide) (Nat.le_of_ble_eq_true rfl) rfl (Nat.le_of_ble_eq_true rfl) rfl (wm_fail hT (by decide) (hT.ai (k := 10) rfl hti)) ?_
    refine wq_iret rfl (by decide) rfl ?_
    unfold wf_wrong
    first | exact wq_k0 | (rw [if_pos (by omega)]; exact wq_k0) | (rw [if_neg (by omega)]; exact wq_k0)
theorem wm_take {F : wq_F} (hT : wm_T F) (hti : F 0 25 < 1502) {d : Nat} : mq (d + 2) 212 [36893488147419103232] wm_sh F (wq_k (some (wv_take F)) wm_sh (wf_take F)) := by
  have e : ev_ent [36893488147419103232] = [36893488147419103232] := by
    rfl
  refine mq_of (maxL := 1) (rt := (some .boolean)) (code := (ev_un al_mX12_take.2.2.2.2)) (L := [36893488147419103232]) rfl (by rw [e]; exact Nat.le_of_ble_eq_true rfl) (by rw [e]; rfl) ?_
  refine wq_aload_n rfl rfl rfl ?_
  refine wm_getR (v := 36893488147419103241) rfl (by decide) (hT.r 21 8 rfl) ?_
  refine wq_aload_n rfl rfl rfl ?_
  refine wm_getI rfl (by decide) ?_
  refine wq_iaload (q := 9) (n := 1502) rfl rfl (by decide) (by omega) (by decide) ?_
  refine wq_bipush rfl rfl ?_
  refine wq_ic_ne rfl rfl (hT.ai (k := 9) rfl (by omega)) (by decide) (fun h1 => ?_) (fun h1 => ?_)
  · skip
    refine wq_aload_n rfl rfl rfl ?_
    refine wm_getI rfl (by decide) ?_
    refine wq_sipush rfl rfl ?_
    refine wq_ic_ne rfl rfl (hT.i 25 rfl) (by decide) (fun h2 => ?_) (fun h2 => ?_)
    · skip
      refine wq_aload_n rfl rfl rfl ?_
      refine wq_dup rfl rfl ?_
      refine wm_getI rfl (by decide) ?_
      refine wq_iconst rfl rfl ?_
      refine wq_iaddZ rfl (hT.i 25 rfl) (by decide) (z := F 0 25 + 1) (by omega) ?_
      refine wm_put rfl (by decide) (wq_I (by omega)) ?_
      have hT3 := hT.uf (f := 25) (c := 0) (v := F 0 25 + 1) rfl (show F 0 25 + 1 < 4294967296 from (by omega))
      refine wq_iconst rfl rfl ?_
      refine wq_iret rfl (by decide) rfl ?_
      unfold wv_take wf_take wf_kind
      first | exact wq_k0 | (rw [if_pos (Or.inl (by omega)), if_pos (by omega)]; exact wq_k0) | (rw [if_pos (Or.inr (by omega)), if_neg (by omega), if_pos (by omega)]; exact wq_k0) | (rw [if_neg (by omega), if_neg (by omega), if_neg (by omega)]; exact wq_k0)
    · skip
      refine wq_aload_n rfl rfl rfl ?_
      refine wq_iconst rfl rfl ?_
      refine wq_aload_n rfl rfl rfl ?_
      refine wm_virtI (x := F 10 (F 0 25)) (as := [36893488147419103232]) rfl rfl (by decide) (Nat.le_of_ble_eq_true rfl) rfl (Nat.le_of_ble_eq_true rfl) rfl (wm_here hT hti) ?_
      refine wm_virtI (x := 0) (as := [36893488147419103232, 3, F 10 (F 0 25)]) rfl rfl (by decide) (Nat.le_of_ble_eq_true rfl) rfl (Nat.le_of_ble_eq_true rfl) rfl (wm_fail hT (by decide) (hT.ai (k := 10) rfl hti)) ?_
      refine wq_iret rfl (by decide) rfl ?_
      unfold wv_take wf_take wf_kind
      first | exact wq_k0 | (rw [if_pos (Or.inl (by omega)), if_pos (by omega)]; exact wq_k0) | (rw [if_pos (Or.inr (by omega)), if_neg (by omega), if_pos (by omega)]; exact wq_k0) | (rw [if_neg (by omega), if_neg (by omega), if_neg (by omega)]; exact wq_k0)
  · skip
    refine wq_aload_n rfl rfl rfl ?_
    refine wq_iconst rfl rfl ?_
    refine wq_aload_n rfl rfl rfl ?_
    refine wm_virtI (x := F 10 (F 0 25)) (as := [36893488147419103232]) rfl rfl (by decide) (Nat.le_of_ble_eq_true rfl) rfl (Nat.le_of_ble_eq_true rfl) rfl (wm_here hT hti) ?_
    refine wm_virtI (x := 0) (as := [36893488147419103232, 1, F 10 (F 0 25)]) rfl rfl (by decide) (Nat.le_of_ble_eq_true rfl) rfl (Nat.le_of_ble_eq_true rfl) rfl (wm_fail hT (by decide) (hT.ai (k := 10) rfl hti)) ?_
    refine wq_iret rfl (by decide) rfl ?_
    unfold wv_take wf_take wf_kind
    first | exact wq_k0 | (rw [if_pos (Or.inl (by omega)), if_pos (by omega)]; exact wq_k0) | (rw [if_pos (Or.inr (by omega)), if_neg (by omega), if_pos (by omega)]; exact wq_k0) | (rw [if_neg (by omega), if_neg (by omega), if_neg (by omega)]; exact wq_k0)
theorem wm_enter {F : wq_F} (hT : wm_T F) (hti : F 0 25 < 1502) (hne : F 0 47 ≤ 20) {d : Nat} : mq (d + 2) 216 [36893488147419103232] wm_sh F (wq_k (some (wv_enter F)) wm_sh (wf_enter F)) := by
  have e : ev_ent [36893488147419103232] = [36893488147419103232] := by
    rfl
  refine mq_of (maxL := 1) (rt := (some .boolean)) (code := (ev_un al_mX12_enter.2.2.2.2)) (L := [36893488147419103232]) rfl (by rw [e]; exact Nat.le_of_ble_eq_true rfl) (by rw [e]; rfl) ?_
  refine wq_aload_n rfl rfl rfl ?_
  refine wm_getI rfl (by decide) ?_
  refine wq_bipush rfl rfl ?_
  refine wq_ic_ne rfl rfl (hT.i 47 rfl) (by decide) (fun h1 => ?_) (fun h1 => ?_)
  · skip
    refine wq_aload_n rfl rfl rfl ?_
    refine wq_dup rfl rfl ?_
    refine wm_getI rfl (by decide) ?_
    refine wq_iconst rfl rfl ?_
    refine wq_iaddZ rfl (hT.i 47 rfl) (by decide) (z := F 0 47 + 1) (by omega) ?_
    refine wm_put rfl (by decide) (wq_I (by omega)) ?_
    have hT2 := hT.uf (f := 47) (c := 0) (v := F 0 47 + 1) rfl (show F 0 47 + 1 < 4294967296 from (by omega))
    refine wq_iconst rfl rfl ?_
    refine wq_iret rfl (by decide) rfl ?_
    unfold wv_enter wf_enter
    first | exact wq_k0 | (rw [if_pos (by omega), if_pos (by omega)]; exact wq_k0) | (rw [if_neg (by omega), if_neg (by omega)]; exact wq_k0)
  · skip
    refine wq_aload_n rfl rfl rfl ?_
    refine wq_iconst rfl rfl ?_
    refine wq_aload_n rfl rfl rfl ?_
    refine wm_virtI (x := F 10 (F 0 25)) (as := [36893488147419103232]) rfl rfl (by decide) (Nat.le_of_ble_eq_true rfl) rfl (Nat.le_of_ble_eq_true rfl) rfl (wm_here hT hti) ?_
    refine wm_virtI (x := 0) (as := [36893488147419103232, 3, F 10 (F 0 25)]) rfl rfl (by decide) (Nat.le_of_ble_eq_true rfl) rfl (Nat.le_of_ble_eq_true rfl) rfl (wm_fail hT (by decide) (hT.ai (k := 10) rfl hti)) ?_
    refine wq_iret rfl (by decide) rfl ?_
    unfold wv_enter wf_enter
    first | exact wq_k0 | (rw [if_pos (by omega), if_pos (by omega)]; exact wq_k0) | (rw [if_neg (by omega), if_neg (by omega)]; exact wq_k0)
theorem wm_isSign {F : wq_F} (hT : wm_T F) (hti : F 0 25 < 1502) {d c : Nat} (hc : c < 4294967296) : mq (d + 1) 36 [36893488147419103232, c] wm_sh F (wq_k (some (wv_tok F 5 c)) wm_sh F) := by
  have e : ev_ent [36893488147419103232, c] = [36893488147419103232, c] := by
    show 36893488147419103232 :: ev_ent [c] = _
    rw [wm_entI hc]
    rfl
  refine mq_of (maxL := 2) (rt := (some .boolean)) (code := (ev_un al_mX12_isSign.2.2.2.2)) (L := [36893488147419103232, c]) rfl (by rw [e]; exact Nat.le_of_ble_eq_true rfl) (by rw [e]; rfl) ?_
  refine wq_aload_n rfl rfl rfl ?_
  refine wm_getR (v := 36893488147419103241) rfl (by decide) (hT.r 21 8 rfl) ?_
  refine wq_aload_n rfl rfl rfl ?_
  refine wm_getI rfl (by decide) ?_
  refine wq_iaload (q := 9) (n := 1502) rfl rfl (by decide) (by omega) (by decide) ?_
  refine wq_iconst rfl rfl ?_
  refine wq_ic_ne rfl rfl (hT.ai (k := 9) rfl (by omega)) (by decide) (fun h1 => ?_) (fun h1 => ?_)
  · skip
    refine wq_iconst rfl rfl ?_
    refine wq_iret rfl (by decide) rfl ?_
    unfold wv_tok wf_kind
    first | exact wq_k0 | (rw [if_pos ⟨by omega, by omega⟩]; exact wq_k0) | (rw [if_neg (by omega)]; exact wq_k0)
  · skip
    refine wq_aload_n rfl rfl rfl ?_
    refine wm_getR (v := 36893488147419103243) rfl (by decide) (hT.r 23 10 rfl) ?_
    refine wq_aload_n rfl rfl rfl ?_
    refine wm_getI rfl (by decide) ?_
    refine wq_laload (q := 11) (n := 1502) rfl rfl (by decide) (by omega) (by decide) ?_
    refine wq_iload_n rfl rfl hc ?_
    refine wq_i2l rfl hc ?_
    refine wq_lcmp rfl (wm_al_L (hT.al (k := 11) rfl (by omega))) (wq_i2l_L hc) ?_
    refine wq_if_ne rfl rfl (wq_oCmp_lt _ _) (fun h2 => ?_) (fun h2 => ?_)
    · skip
      refine wq_iconst rfl rfl ?_
      refine wq_iret rfl (by decide) rfl ?_
      unfold wv_tok wf_kind
      first | exact wq_k0 | (rw [if_pos ⟨by omega, by omega⟩]; exact wq_k0) | (rw [if_neg (by omega)]; exact wq_k0)
    · skip
      refine wq_iconst rfl rfl ?_
      refine wq_goto rfl rfl ?_
      refine wq_iret rfl (by decide) rfl ?_
      unfold wv_tok wf_kind
      first | exact wq_k0 | (rw [if_pos ⟨by omega, by omega⟩]; exact wq_k0) | (rw [if_neg (by omega)]; exact wq_k0)
theorem wm_isWord {F : wq_F} (hT : wm_T F) (hti : F 0 25 < 1502) {d c : Nat} (hc : c < 4294967296) : mq (d + 1) 34 [36893488147419103232, c] wm_sh F (wq_k (some (wv_tok F 4 c)) wm_sh F) := by
  have e : ev_ent [36893488147419103232, c] = [36893488147419103232, c] := by
    show 36893488147419103232 :: ev_ent [c] = _
    rw [wm_entI hc]
    rfl
  refine mq_of (maxL := 2) (rt := (some .boolean)) (code := (ev_un al_mX12_isWord.2.2.2.2)) (L := [36893488147419103232, c]) rfl (by rw [e]; exact Nat.le_of_ble_eq_true rfl) (by rw [e]; rfl) ?_
  refine wq_aload_n rfl rfl rfl ?_
  refine wm_getR (v := 36893488147419103241) rfl (by decide) (hT.r 21 8 rfl) ?_
  refine wq_aload_n rfl rfl rfl ?_
  refine wm_getI rfl (by decide) ?_
  refine wq_iaload (q := 9) (n := 1502) rfl rfl (by decide) (by omega) (by decide) ?_
  refine wq_iconst rfl rfl ?_
  refine wq_ic_ne rfl rfl (hT.ai (k := 9) rfl (by omega)) (by decide) (fun h1 => ?_) (fun h1 => ?_)
  · skip
    refine wq_iconst rfl rfl ?_
    refine wq_iret rfl (by decide) rfl ?_
    unfold wv_tok wf_kind
    first | exact wq_k0 | (rw [if_pos ⟨by omega, by omega⟩]; exact wq_k0) | (rw [if_neg (by omega)]; exact wq_k0)
  · skip
    refine wq_aload_n rfl rfl rfl ?_
    refine wm_getR (v := 36893488147419103243) rfl (by decide) (hT.r 23 10 rfl) ?_
    refine wq_aload_n rfl rfl rfl ?_
    refine wm_getI rfl (by decide) ?_
    refine wq_laload (q := 11) (n := 1502) rfl rfl (by decide) (by omega) (by decide) ?_
    refine wq_iload_n rfl rfl hc ?_
    refine wq_i2l rfl hc ?_
    refine wq_lcmp rfl (wm_al_L (hT.al (k := 11) rfl (by omega))) (wq_i2l_L hc) ?_
    refine wq_if_ne rfl rfl (wq_oCmp_lt _ _) (fun h2 => ?_) (fun h2 => ?_)
    · skip
      refine wq_iconst rfl rfl ?_
      refine wq_iret rfl (by decide) rfl ?_
      unfold wv_tok wf_kind
      first | exact wq_k0 | (rw [if_pos ⟨by omega, by omega⟩]; exact wq_k0) | (rw [if_neg (by omega)]; exact wq_k0)
    · skip
      refine wq_iconst rfl rfl ?_
      refine wq_goto rfl rfl ?_
      refine wq_iret rfl (by decide) rfl ?_
      unfold wv_tok wf_kind
      first | exact wq_k0 | (rw [if_pos ⟨by omega, by omega⟩]; exact wq_k0) | (rw [if_neg (by omega)]; exact wq_k0)
theorem wm_emit {F : wq_F} (hT : wm_T F) (hw : F 0 41 < 14000) {d o a b n : Nat} (ho : o < 4294967296) (ha : a < 4294967296) (hb : b < 4294967296) (hn : n < 4294967296) : mq (d + 1) 30 [36893488147419103232, o, a, b, n] wm_sh F (wq_k (some (F 0 41)) wm_sh (wf_emit F o a b n)) := by
  have e : ev_ent [36893488147419103232, o, a, b, n] = [36893488147419103232, o, a, b, n] := by
    show 36893488147419103232 :: ev_ent [o, a, b, n] = _
    rw [wm_entI ho, wm_entI ha, wm_entI hb, wm_entI hn]
    rfl
  refine mq_of (maxL := 5) (rt := (some .int)) (code := (ev_un al_mX12_emit.2.2.2.2)) (L := [36893488147419103232, o, a, b, n]) rfl (by rw [e]; exact Nat.le_of_ble_eq_true rfl) (by rw [e]; rfl) ?_
  refine wq_aload_n rfl rfl rfl ?_
  refine wm_getR (v := 36893488147419103252) rfl (by decide) (hT.r 35 19 rfl) ?_
  refine wq_aload_n rfl rfl rfl ?_
  refine wm_getI rfl (by decide) ?_
  refine wq_iload_n rfl rfl ho ?_
  refine wq_iastore (q := 20) (n := 14000) rfl rfl (by decide) (by omega) (by decide) ho ?_
  have hT1 := hT.ua (k := 20) (kd := 1000) (n := 14000) (i := F 0 41) (v := o) rfl (by decide) (by omega) (show o < 4294967296 from ho)
  refine wq_aload_n rfl rfl rfl ?_
  refine wm_getR (v := 36893488147419103253) rfl (by decide) (hT1.r 36 20 rfl) ?_
  refine wq_aload_n rfl rfl rfl ?_
  refine wm_getR (v := F 0 41) rfl (by decide) (wq_up_cell (by decide)) ?_
  refine wq_iload_n rfl rfl ha ?_
  refine wq_iastore (q := 21) (n := 14000) rfl rfl (by decide) (by omega) (by decide) ha ?_
  have hT2 := hT1.ua (k := 21) (kd := 1000) (n := 14000) (i := F 0 41) (v := a) rfl (by decide) (by omega) (show a < 4294967296 from ha)
  refine wq_aload_n rfl rfl rfl ?_
  refine wm_getR (v := 36893488147419103254) rfl (by decide) (hT2.r 37 21 rfl) ?_
  refine wq_aload_n rfl rfl rfl ?_
  refine wm_getR (v := F 0 41) rfl (by decide) ((wq_up_cell (by decide)).trans (wq_up_cell (by decide))) ?_
  refine wq_iload_n rfl rfl hb ?_
  refine wq_iastore (q := 22) (n := 14000) rfl rfl (by decide) (by omega) (by decide) hb ?_
  have hT3 := hT2.ua (k := 22) (kd := 1000) (n := 14000) (i := F 0 41) (v := b) rfl (by decide) (by omega) (show b < 4294967296 from hb)
  refine wq_aload_n rfl rfl rfl ?_
  refine wm_getR (v := 36893488147419103255) rfl (by decide) (hT3.r 38 22 rfl) ?_
  refine wq_aload_n rfl rfl rfl ?_
  refine wm_getR (v := F 0 41) rfl (by decide) (((wq_up_cell (by decide)).trans (wq_up_cell (by decide))).trans (wq_up_cell (by decide))) ?_
  refine wq_iload rfl rfl hn ?_
  refine wq_iastore (q := 23) (n := 14000) rfl rfl (by decide) (by omega) (by decide) hn ?_
  have hT4 := hT3.ua (k := 23) (kd := 1000) (n := 14000) (i := F 0 41) (v := n) rfl (by decide) (by omega) (show n < 4294967296 from hn)
  refine wq_aload_n rfl rfl rfl ?_
  refine wq_dup rfl rfl ?_
  refine wm_getR (v := F 0 41) rfl (by decide) ((((wq_up_cell (by decide)).trans (wq_up_cell (by decide))).trans (wq_up_cell (by decide))).trans (wq_up_cell (by decide))) ?_
  refine wq_iconst rfl rfl ?_
  refine wq_iaddZ rfl (wm_cast ((((wq_up_cell (by decide)).trans (wq_up_cell (by decide))).trans (wq_up_cell (by decide))).trans (wq_up_cell (by decide))) (hT4.i 41 rfl)) (by decide) (z := F 0 41 + 1) (by omega) ?_
  refine wm_put rfl (by decide) (wq_I (by omega)) ?_
  have hT5 := hT4.uf (f := 41) (c := 0) (v := F 0 41 + 1) rfl (show F 0 41 + 1 < 4294967296 from (by omega))
  refine wq_aload_n rfl rfl rfl ?_
  refine wm_getR (v := F 0 41 + 1) rfl (by decide) (wq_up_same _ _ _ _) ?_
  refine wq_iconst rfl rfl ?_
  refine wq_isubZ rfl (wm_cast (wq_up_same _ _ _ _) (hT5.i 41 rfl)) (by decide) (z := F 0 41) (by omega) ?_
  refine wq_iret rfl (by omega) rfl ?_
  unfold wf_emit
  exact wq_k0
theorem wm_later {F : wq_F} (hT : wm_T F) (hw : F 0 46 < 4000) {d o a b c : Nat} (ho : o < 4294967296) (ha : a < 4294967296) (hb : b < 4294967296) (hc : c < 4294967296) : mq (d + 1) 31 [36893488147419103232, o, a, b, c] wm_sh F (wq_k none wm_sh (wf_later F o a b c)) := by
  have e : ev_ent [36893488147419103232, o, a, b, c] = [36893488147419103232, o, a, b, c] := by
    show 36893488147419103232 :: ev_ent [o, a, b, c] = _
    rw [wm_entI ho, wm_entI ha, wm_entI hb, wm_entI hc]
    rfl
  refine mq_of (maxL := 5) (rt := none) (code := (ev_un al_mX12_later.2.2.2.2)) (L := [36893488147419103232, o, a, b, c]) rfl (by rw [e]; exact Nat.le_of_ble_eq_true rfl) (by rw [e]; rfl) ?_
  refine wq_aload_n rfl rfl rfl ?_
  refine wm_getR (v := 36893488147419103257) rfl (by decide) (hT.r 42 24 rfl) ?_
  refine wq_aload_n rfl rfl rfl ?_
  refine wm_getI rfl (by decide) ?_
  refine wq_iload_n rfl rfl ho ?_
  refine wq_iastore (q := 25) (n := 4000) rfl rfl (by decide) (by omega) (by decide) ho ?_
  have hT1 := hT.ua (k := 25) (kd := 1000) (n := 4000) (i := F 0 46) (v := o) rfl (by decide) (by omega) (show o < 4294967296 from ho)
  refine wq_aload_n rfl rfl rfl ?_
  refine wm_getR (v := 36893488147419103258) rfl (by decide) (hT1.r 43 25 rfl) ?_
  refine wq_aload_n rfl rfl rfl ?_
  refine wm_getR (v := F 0 46) rfl (by decide) (wq_up_cell (by decide)) ?_
  refine wq_iload_n rfl rfl ha ?_
  refine wq_iastore (q := 26) (n := 4000) rfl rfl (by decide) (by omega) (by decide) ha ?_
  have hT2 := hT1.ua (k := 26) (kd := 1000) (n := 4000) (i := F 0 46) (v := a) rfl (by decide) (by omega) (show a < 4294967296 from ha)
  refine wq_aload_n rfl rfl rfl ?_
  refine wm_getR (v := 36893488147419103259) rfl (by decide) (hT2.r 44 26 rfl) ?_
  refine wq_aload_n rfl rfl rfl ?_
  refine wm_getR (v := F 0 46) rfl (by decide) ((wq_up_cell (by decide)).trans (wq_up_cell (by decide))) ?_
  refine wq_iload_n rfl rfl hb ?_
  refine wq_iastore (q := 27) (n := 4000) rfl rfl (by decide) (by omega) (by decide) hb ?_
  have hT3 := hT2.ua (k := 27) (kd := 1000) (n := 4000) (i := F 0 46) (v := b) rfl (by decide) (by omega) (show b < 4294967296 from hb)
  refine wq_aload_n rfl rfl rfl ?_
  refine wm_getR (v := 36893488147419103260) rfl (by decide) (hT3.r 45 27 rfl) ?_
  refine wq_aload_n rfl rfl rfl ?_
  refine wm_getR (v := F 0 46) rfl (by decide) (((wq_up_cell (by decide)).trans (wq_up_cell (by decide))).trans (wq_up_cell (by decide))) ?_
  refine wq_iload rfl rfl hc ?_
  refine wq_iastore (q := 28) (n := 4000) rfl rfl (by decide) (by omega) (by decide) hc ?_
  have hT4 := hT3.ua (k := 28) (kd := 1000) (n := 4000) (i := F 0 46) (v := c) rfl (by decide) (by omega) (show c < 4294967296 from hc)
  refine wq_aload_n rfl rfl rfl ?_
  refine wq_dup rfl rfl ?_
  refine wm_getR (v := F 0 46) rfl (by decide) ((((wq_up_cell (by decide)).trans (wq_up_cell (by decide))).trans (wq_up_cell (by decide))).trans (wq_up_cell (by decide))) ?_
  refine wq_iconst rfl rfl ?_
  refine wq_iaddZ rfl (wm_cast ((((wq_up_cell (by decide)).trans (wq_up_cell (by decide))).trans (wq_up_cell (by decide))).trans (wq_up_cell (by decide))) (hT4.i 46 rfl)) (by decide) (z := F 0 46 + 1) (by omega) ?_
  refine wm_put rfl (by decide) (wq_I (by omega)) ?_
  have hT5 := hT4.uf (f := 46) (c := 0) (v := F 0 46 + 1) rfl (show F 0 46 + 1 < 4294967296 from (by omega))
  refine wq_ret rfl ?_
  unfold wf_later
  exact wq_k0
