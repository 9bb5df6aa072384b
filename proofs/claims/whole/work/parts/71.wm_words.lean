/-! ===== 71: the reference's parser: constant, table, closeParen, closeBracket, called, unary (by wip/whole2/law71.py) ===== -/
theorem wm_ltof {x y b : Nat} (h : x = y) (hy : y < b) : x < b := h ▸ hy
theorem wf_emit_f {F : wq_F} {o a b n f : Nat} (h : f ≠ 41) : wf_emit F o a b n 0 f = F 0 f := by
  unfold wf_emit
  rw [wq_up_at h, wq_up_cell (by decide), wq_up_cell (by decide), wq_up_cell (by decide), wq_up_cell (by decide)]
theorem wf_later_f {F : wq_F} {s a b c f : Nat} (h : f ≠ 46) : wf_later F s a b c 0 f = F 0 f := by
  unfold wf_later
  rw [wq_up_at h, wq_up_cell (by decide), wq_up_cell (by decide), wq_up_cell (by decide), wq_up_cell (by decide)]
theorem wf_emit_T {F : wq_F} (hT : wm_T F) (hw : F 0 41 < 14000) {o a b n : Nat} (ho : o < 4294967296) (ha : a < 4294967296) (hb : b < 4294967296) (hn : n < 4294967296) : wm_T (wf_emit F o a b n) :=
  ((((hT.ua (k := 20) (kd := 1000) (n := 14000) (v := o) rfl (by decide) hw ho).ua (k := 21) (kd := 1000) (n := 14000) (v := a) rfl (by decide) hw ha).ua (k := 22) (kd := 1000) (n := 14000) (v := b) rfl (by decide) hw hb).ua (k := 23) (kd := 1000) (n := 14000) (v := n) rfl (by decide) hw hn).uf (f := 41) (c := 0) rfl (show F 0 41 + 1 < 4294967296 by omega)
theorem wf_later_T {F : wq_F} (hT : wm_T F) (hw : F 0 46 < 4000) {o a b n : Nat} (ho : o < 4294967296) (ha : a < 4294967296) (hb : b < 4294967296) (hn : n < 4294967296) : wm_T (wf_later F o a b n) :=
  ((((hT.ua (k := 25) (kd := 1000) (n := 4000) (v := o) rfl (by decide) hw ho).ua (k := 26) (kd := 1000) (n := 4000) (v := a) rfl (by decide) hw ha).ua (k := 27) (kd := 1000) (n := 4000) (v := b) rfl (by decide) hw hb).ua (k := 28) (kd := 1000) (n := 4000) (v := n) rfl (by decide) hw hn).uf (f := 46) (c := 0) rfl (show F 0 46 + 1 < 4294967296 by omega)
theorem wv_need2 (F : wq_F) (k c : Nat) : wv_need F k c < 2 := by
  unfold wv_need
  split
  · decide
  · exact wv_take2 F
theorem wf_need_T {F : wq_F} (hT : wm_T F) (hti : F 0 25 < 1502) {k c : Nat} : wm_T (wf_need F k c) := by
  unfold wf_need
  split
  · exact wf_wrong_T hT hti
  · exact wf_take_T hT hti
def wf_unary (F : wq_F) (c n : Nat) : wq_F := if c = 0 then wf_emit (wq_up F 0 64 4294967295) 35 0 0 0 else if c = 35 then wf_emit (wq_up F 0 64 4294967295) 34 0 0 n else if c = 45 then wf_emit (wq_up F 0 64 4294967295) 32 13 0 n else wf_emit (wq_up F 0 64 4294967295) 32 14 0 n
theorem wm_constant {F : wq_F} (hT : wm_T F) (hti : F 0 25 < 1502) (hw : F 0 41 < 14000) {d o a : Nat} (ho : o < 4294967296) (ha : a < 4294967296) : mq (d + 3) 237 [36893488147419103232, o, a] wm_sh F (wq_k (some (wv_take (wq_up (wf_emit F o a 0 0) 0 64 4294967295))) wm_sh (wf_take (wq_up (wf_emit F o a 0 0) 0 64 4294967295))) := by
  have e : ev_ent [36893488147419103232, o, a] = [36893488147419103232, o, a] := by
    show 36893488147419103232 :: ev_ent [o, a] = _
    rw [wm_entI ho, wm_entI ha]
    rfl
  refine mq_of (maxL := 4) (rt := (some .boolean)) (code := (ev_un al_mX12_constant.2.2.2.2)) (L := [36893488147419103232, o, a, 73786976294838206464]) rfl (by rw [e]; exact Nat.le_of_ble_eq_true rfl) (by rw [e]; rfl) ?_
  refine wq_aload_n rfl rfl rfl ?_
  refine wq_iload_n rfl rfl ho ?_
  refine wq_iload_n rfl rfl ha ?_
  refine wq_iconst rfl rfl ?_
  refine wq_iconst rfl rfl ?_
  refine wm_virtI (x := F 0 41) (as := [36893488147419103232, o, a, 0, 0]) rfl rfl (by decide) (Nat.le_of_ble_eq_true rfl) rfl (Nat.le_of_ble_eq_true rfl) rfl (wm_emit hT hw ho ha (by decide) (by decide)) ?_
  refine wq_istore_n rfl (hT.i 41 rfl) (Nat.le_of_ble_eq_true rfl) (Or.inr ⟨_, rfl, (wq_notL ha)⟩) (L' := [36893488147419103232, o, a, F 0 41]) rfl ?_
  refine wq_aload_n rfl rfl rfl ?_
  refine wq_iconst rfl rfl ?_
  refine wm_put rfl (by decide) (wq_I (by decide)) ?_
  have hT1 := (wf_emit_T (o := o) (a := a) (b := 0) (n := 0) hT hw ho ha (by decide) (by decide)).uf (f := 64) (c := 0) (v := 4294967295) rfl (show 4294967295 < 4294967296 from (by decide))
  refine wq_aload_n rfl rfl rfl ?_
  refine wm_virtI (x := wv_take (wq_up (wf_emit F o a 0 0) 0 64 4294967295)) (as := [36893488147419103232]) rfl rfl (by decide) (Nat.le_of_ble_eq_true rfl) rfl (Nat.le_of_ble_eq_true rfl) rfl (wm_take hT1 (wm_ltof ((wq_up_at (by decide)).trans (wf_emit_f (by decide))) hti)) ?_
  refine wq_iret rfl (wm_zlt (wv_take2 _)) (Nat.blt_eq.mpr (wv_take2 _)) ?_
  exact wq_k0
theorem wm_table {F : wq_F} (hT : wm_T F) (hti : F 0 25 < 1502) (hw : F 0 41 < 14000) (hwt : F 0 46 < 4000) {d : Nat} : mq (d + 3) 248 [36893488147419103232] wm_sh F (wq_k (some (wv_take (wf_later (wf_emit F 26 0 0 0) 15 1 0 0))) wm_sh (wf_take (wf_later (wf_emit F 26 0 0 0) 15 1 0 0))) := by
  have e : ev_ent [36893488147419103232] = [36893488147419103232] := by
    rfl
  refine mq_of (maxL := 2) (rt := (some .boolean)) (code := (ev_un al_mX12_table.2.2.2.2)) (L := [36893488147419103232, 73786976294838206464]) rfl (by rw [e]; exact Nat.le_of_ble_eq_true rfl) (by rw [e]; rfl) ?_
  refine wq_aload_n rfl rfl rfl ?_
  refine wq_bipush rfl rfl ?_
  refine wq_iconst rfl rfl ?_
  refine wq_iconst rfl rfl ?_
  refine wq_iconst rfl rfl ?_
  refine wm_virtI (x := F 0 41) (as := [36893488147419103232, 26, 0, 0, 0]) rfl rfl (by decide) (Nat.le_of_ble_eq_true rfl) rfl (Nat.le_of_ble_eq_true rfl) rfl (wm_emit hT hw (by decide) (by decide) (by decide) (by decide)) ?_
  refine wq_istore_n rfl (hT.i 41 rfl) (Nat.le_of_ble_eq_true rfl) (Or.inr ⟨_, rfl, rfl⟩) (L' := [36893488147419103232, F 0 41]) rfl ?_
  refine wq_aload_n rfl rfl rfl ?_
  refine wq_bipush rfl rfl ?_
  refine wq_iconst rfl rfl ?_
  refine wq_iconst rfl rfl ?_
  refine wq_iconst rfl rfl ?_
  refine wm_virtV (as := [36893488147419103232, 15, 1, 0, 0]) rfl rfl (by decide) (Nat.le_of_ble_eq_true rfl) rfl (Nat.le_of_ble_eq_true rfl) rfl (wm_later (wf_emit_T (o := 26) (a := 0) (b := 0) (n := 0) hT hw (by decide) (by decide) (by decide) (by decide)) (wm_ltof (wf_emit_f (by decide)) hwt) (by decide) (by decide) (by decide) (by decide)) ?_
  refine wq_aload_n rfl rfl rfl ?_
  refine wm_virtI (x := wv_take (wf_later (wf_emit F 26 0 0 0) 15 1 0 0)) (as := [36893488147419103232]) rfl rfl (by decide) (Nat.le_of_ble_eq_true rfl) rfl (Nat.le_of_ble_eq_true rfl) rfl (wm_take (wf_later_T (o := 15) (a := 1) (b := 0) (n := 0) (wf_emit_T (o := 26) (a := 0) (b := 0) (n := 0) hT hw (by decide) (by decide) (by decide) (by decide)) (wm_ltof (wf_emit_f (by decide)) hwt) (by decide) (by decide) (by decide) (by decide)) (wm_ltof ((wf_later_f (by decide)).trans (wf_emit_f (by decide))) hti)) ?_
  refine wq_iret rfl (wm_zlt (wv_take2 _)) (Nat.blt_eq.mpr (wv_take2 _)) ?_
  exact wq_k0
theorem wm_closeParen {F : wq_F} (hT : wm_T F) (hti : F 0 25 < 1502) (hwt : F 0 46 < 4000) {d : Nat} : mq (d + 4) 273 [36893488147419103232] wm_sh F (wq_k (some (wv_need (wf_later (wq_up F 0 61 5) 8 0 0 0) 5 41)) wm_sh (wf_need (wf_later (wq_up F 0 61 5) 8 0 0 0) 5 41)) := by
  have e : ev_ent [36893488147419103232] = [36893488147419103232] := by
    rfl
  refine mq_of (maxL := 1) (rt := (some .boolean)) (code := (ev_un al_mX12_closeParen.2.2.2.2)) (L := [36893488147419103232]) rfl (by rw [e]; exact Nat.le_of_ble_eq_true rfl) (by rw [e]; rfl) ?_
  refine wq_aload_n rfl rfl rfl ?_
  refine wq_iconst rfl rfl ?_
  refine wm_put rfl (by decide) (wq_I (by decide)) ?_
  have hT1 := hT.uf (f := 61) (c := 0) (v := 5) rfl (show 5 < 4294967296 from (by decide))
  refine wq_aload_n rfl rfl rfl ?_
  refine wq_bipush rfl rfl ?_
  refine wq_iconst rfl rfl ?_
  refine wq_iconst rfl rfl ?_
  refine wq_iconst rfl rfl ?_
  refine wm_virtV (as := [36893488147419103232, 8, 0, 0, 0]) rfl rfl (by decide) (Nat.le_of_ble_eq_true rfl) rfl (Nat.le_of_ble_eq_true rfl) rfl (wm_later hT1 (wm_ltof (wq_up_at (by decide)) hwt) (by decide) (by decide) (by decide) (by decide)) ?_
  refine wq_aload_n rfl rfl rfl ?_
  refine wq_bipush rfl rfl ?_
  refine wm_virtI (x := wv_need (wf_later (wq_up F 0 61 5) 8 0 0 0) 5 41) (as := [36893488147419103232, 41]) rfl rfl (by decide) (Nat.le_of_ble_eq_true rfl) rfl (Nat.le_of_ble_eq_true rfl) rfl (wm_needSign (wf_later_T (o := 8) (a := 0) (b := 0) (n := 0) hT1 (wm_ltof (wq_up_at (by decide)) hwt) (by decide) (by decide) (by decide) (by decide)) (wm_ltof ((wf_later_f (by decide)).trans (wq_up_at (by decide))) hti) (by decide)) ?_
  refine wq_iret rfl (wm_zlt (wv_need2 _ _ _)) (Nat.blt_eq.mpr (wv_need2 _ _ _)) ?_
  exact wq_k0
theorem wm_closeBracket {F : wq_F} (hT : wm_T F) (hti : F 0 25 < 1502) (hwt : F 0 46 < 4000) {d n : Nat} (hn : n < 4294967296) : mq (d + 4) 274 [36893488147419103232, n] wm_sh F (wq_k (some (wv_need (wf_later (wq_up (wq_up F 0 61 3) 0 63 n) 8 0 0 0) 5 93)) wm_sh (wf_need (wf_later (wq_up (wq_up F 0 61 3) 0 63 n) 8 0 0 0) 5 93)) := by
  have e : ev_ent [36893488147419103232, n] = [36893488147419103232, n] := by
    show 36893488147419103232 :: ev_ent [n] = _
    rw [wm_entI hn]
    rfl
  refine mq_of (maxL := 2) (rt := (some .boolean)) (code := (ev_un al_mX12_closeBracket.2.2.2.2)) (L := [36893488147419103232, n]) rfl (by rw [e]; exact Nat.le_of_ble_eq_true rfl) (by rw [e]; rfl) ?_
  refine wq_aload_n rfl rfl rfl ?_
  refine wq_iconst rfl rfl ?_
  refine wm_put rfl (by decide) (wq_I (by decide)) ?_
  have hT1 := hT.uf (f := 61) (c := 0) (v := 3) rfl (show 3 < 4294967296 from (by decide))
  refine wq_aload_n rfl rfl rfl ?_
  refine wq_iload_n rfl rfl hn ?_
  refine wm_put rfl (by decide) (wq_I hn) ?_
  have hT2 := hT1.uf (f := 63) (c := 0) (v := n) rfl (show n < 4294967296 from hn)
  refine wq_aload_n rfl rfl rfl ?_
  refine wq_bipush rfl rfl ?_
  refine wq_iconst rfl rfl ?_
  refine wq_iconst rfl rfl ?_
  refine wq_iconst rfl rfl ?_
  refine wm_virtV (as := [36893488147419103232, 8, 0, 0, 0]) rfl rfl (by decide) (Nat.le_of_ble_eq_true rfl) rfl (Nat.le_of_ble_eq_true rfl) rfl (wm_later hT2 (wm_ltof ((wq_up_at (by decide)).trans (wq_up_at (by decide))) hwt) (by decide) (by decide) (by decide) (by decide)) ?_
  refine wq_aload_n rfl rfl rfl ?_
  refine wq_bipush rfl rfl ?_
  refine wm_virtI (x := wv_need (wf_later (wq_up (wq_up F 0 61 3) 0 63 n) 8 0 0 0) 5 93) (as := [36893488147419103232, 93]) rfl rfl (by decide) (Nat.le_of_ble_eq_true rfl) rfl (Nat.le_of_ble_eq_true rfl) rfl (wm_needSign (wf_later_T (o := 8) (a := 0) (b := 0) (n := 0) hT2 (wm_ltof ((wq_up_at (by decide)).trans (wq_up_at (by decide))) hwt) (by decide) (by decide) (by decide) (by decide)) (wm_ltof ((wf_later_f (by decide)).trans ((wq_up_at (by decide)).trans (wq_up_at (by decide)))) hti) (by decide)) ?_
  refine wq_iret rfl (wm_zlt (wv_need2 _ _ _)) (Nat.blt_eq.mpr (wv_need2 _ _ _)) ?_
  exact wq_k0
theorem wm_called {F : wq_F} (hT : wm_T F) (hw : F 0 41 < 14000) {d n : Nat} (hn : n < 4294967296) : mq (d + 2) 276 [36893488147419103232, n] wm_sh F (wq_k (some 1) wm_sh (wq_up (wq_up (wf_emit F 16 1 0 n) 0 62 (F 0 41)) 0 61 4)) := by
  have e : ev_ent [36893488147419103232, n] = [36893488147419103232, n] := by
    show 36893488147419103232 :: ev_ent [n] = _
    rw [wm_entI hn]
    rfl
  refine mq_of (maxL := 2) (rt := (some .boolean)) (code := (ev_un al_mX12_called.2.2.2.2)) (L := [36893488147419103232, n]) rfl (by rw [e]; exact Nat.le_of_ble_eq_true rfl) (by rw [e]; rfl) ?_
  refine wq_aload_n rfl rfl rfl ?_
  refine wq_aload_n rfl rfl rfl ?_
  refine wq_bipush rfl rfl ?_
  refine wq_iconst rfl rfl ?_
  refine wq_iconst rfl rfl ?_
  refine wq_iload_n rfl rfl hn ?_
  refine wm_virtI (x := F 0 41) (as := [36893488147419103232, 16, 1, 0, n]) rfl rfl (by decide) (Nat.le_of_ble_eq_true rfl) rfl (Nat.le_of_ble_eq_true rfl) rfl (wm_emit hT hw (by decide) (by decide) (by decide) hn) ?_
  refine wm_put rfl (by decide) (wq_I (hT.i 41 rfl)) ?_
  have hT1 := (wf_emit_T (o := 16) (a := 1) (b := 0) (n := n) hT hw (by decide) (by decide) (by decide) hn).uf (f := 62) (c := 0) (v := F 0 41) rfl (show F 0 41 < 4294967296 from (hT.i 41 rfl))
  refine wq_aload_n rfl rfl rfl ?_
  refine wq_iconst rfl rfl ?_
  refine wm_put rfl (by decide) (wq_I (by decide)) ?_
  have hT2 := hT1.uf (f := 61) (c := 0) (v := 4) rfl (show 4 < 4294967296 from (by decide))
  refine wq_iconst rfl rfl ?_
  refine wq_iret rfl (by decide) rfl ?_
  exact wq_k0
theorem wm_unary {F : wq_F} (hT : wm_T F) (hw : F 0 41 < 14000) {d c n : Nat} (hc : c < 4294967296) (hn : n < 4294967296) : mq (d + 2) 242 [36893488147419103232, c, n] wm_sh F (wq_k (some 1) wm_sh (wf_unary F c n)) := by
  have e : ev_ent [36893488147419103232, c, n] = [36893488147419103232, c, n] := by
    show 36893488147419103232 :: ev_ent [c, n] = _
    rw [wm_entI hc, wm_entI hn]
    rfl
  refine mq_of (maxL := 4) (rt := (some .boolean)) (code := (ev_un al_mX12_unary.2.2.2.2)) (L := [36893488147419103232, c, n, 73786976294838206464]) rfl (by rw [e]; exact Nat.le_of_ble_eq_true rfl) (by rw [e]; rfl) ?_
  refine wq_aload_n rfl rfl rfl ?_
  refine wq_iconst rfl rfl ?_
  refine wm_put rfl (by decide) (wq_I (by decide)) ?_
  have hT1 := hT.uf (f := 64) (c := 0) (v := 4294967295) rfl (show 4294967295 < 4294967296 from (by decide))
  refine wq_iconst rfl rfl ?_
  refine wq_istore_n rfl (by decide) (Nat.le_of_ble_eq_true rfl) (Or.inr ⟨_, rfl, (wq_notL hn)⟩) (L' := [36893488147419103232, c, n, 0]) rfl ?_
  refine wq_iload_n rfl rfl hc ?_
  refine wq_if_ne rfl rfl hc (fun h2 => ?_) (fun h2 => ?_)
  · skip
    refine wq_iload_n rfl rfl hc ?_
    refine wq_bipush rfl rfl ?_
    refine wq_ic_ne rfl rfl hc (by decide) (fun h3 => ?_) (fun h3 => ?_)
    · skip
      refine wq_aload_n rfl rfl rfl ?_
      refine wq_bipush rfl rfl ?_
      refine wq_iload_n rfl rfl hc ?_
      refine wq_bipush rfl rfl ?_
      refine wq_ic_ne rfl rfl hc (by decide) (fun h4 => ?_) (fun h4 => ?_)
      · skip
        refine wq_bipush rfl rfl ?_
        refine wq_iconst rfl rfl ?_
        refine wq_iload_n rfl rfl hn ?_
        refine wm_virtI (x := (wq_up F 0 64 4294967295) 0 41) (as := [36893488147419103232, 32, 14, 0, n]) rfl rfl (by decide) (Nat.le_of_ble_eq_true rfl) rfl (Nat.le_of_ble_eq_true rfl) rfl (wm_emit hT1 (wm_ltof (wq_up_at (by decide)) hw) (by decide) (by decide) (by decide) hn) ?_
        refine wq_istore_n rfl (hT1.i 41 rfl) (Nat.le_of_ble_eq_true rfl) (Or.inr ⟨_, rfl, (wq_notL hn)⟩) (L' := [36893488147419103232, c, n, (wq_up F 0 64 4294967295) 0 41]) rfl ?_
        refine wq_iconst rfl rfl ?_
        refine wq_iret rfl (by decide) rfl ?_
        unfold wf_unary
        first | (rw [if_pos (by omega)]; exact wq_k0) | (rw [if_neg (by omega), if_pos (by omega)]; exact wq_k0) | (rw [if_neg (by omega), if_neg (by omega), if_pos (by omega)]; exact wq_k0) | (rw [if_neg (by omega), if_neg (by omega), if_neg (by omega)]; exact wq_k0)
      · skip
        refine wq_bipush rfl rfl ?_
        refine wq_goto rfl rfl ?_
        refine wq_iconst rfl rfl ?_
        refine wq_iload_n rfl rfl hn ?_
        refine wm_virtI (x := (wq_up F 0 64 4294967295) 0 41) (as := [36893488147419103232, 32, 13, 0, n]) rfl rfl (by decide) (Nat.le_of_ble_eq_true rfl) rfl (Nat.le_of_ble_eq_true rfl) rfl (wm_emit hT1 (wm_ltof (wq_up_at (by decide)) hw) (by decide) (by decide) (by decide) hn) ?_
        refine wq_istore_n rfl (hT1.i 41 rfl) (Nat.le_of_ble_eq_true rfl) (Or.inr ⟨_, rfl, (wq_notL hn)⟩) (L' := [36893488147419103232, c, n, (wq_up F 0 64 4294967295) 0 41]) rfl ?_
        refine wq_iconst rfl rfl ?_
        refine wq_iret rfl (by decide) rfl ?_
        unfold wf_unary
        first | (rw [if_pos (by omega)]; exact wq_k0) | (rw [if_neg (by omega), if_pos (by omega)]; exact wq_k0) | (rw [if_neg (by omega), if_neg (by omega), if_pos (by omega)]; exact wq_k0) | (rw [if_neg (by omega), if_neg (by omega), if_neg (by omega)]; exact wq_k0)
    · skip
      refine wq_aload_n rfl rfl rfl ?_
      refine wq_bipush rfl rfl ?_
      refine wq_iconst rfl rfl ?_
      refine wq_iconst rfl rfl ?_
      refine wq_iload_n rfl rfl hn ?_
      refine wm_virtI (x := (wq_up F 0 64 4294967295) 0 41) (as := [36893488147419103232, 34, 0, 0, n]) rfl rfl (by decide) (Nat.le_of_ble_eq_true rfl) rfl (Nat.le_of_ble_eq_true rfl) rfl (wm_emit hT1 (wm_ltof (wq_up_at (by decide)) hw) (by decide) (by decide) (by decide) hn) ?_
      refine wq_istore_n rfl (hT1.i 41 rfl) (Nat.le_of_ble_eq_true rfl) (Or.inr ⟨_, rfl, (wq_notL hn)⟩) (L' := [36893488147419103232, c, n, (wq_up F 0 64 4294967295) 0 41]) rfl ?_
      refine wq_goto rfl rfl ?_
      refine wq_iconst rfl rfl ?_
      refine wq_iret rfl (by decide) rfl ?_
      unfold wf_unary
      first | (rw [if_pos (by omega)]; exact wq_k0) | (rw [if_neg (by omega), if_pos (by omega)]; exact wq_k0) | (rw [if_neg (by omega), if_neg (by omega), if_pos (by omega)]; exact wq_k0) | (rw [if_neg (by omega), if_neg (by omega), if_neg (by omega)]; exact wq_k0)
  · skip
    refine wq_aload_n rfl rfl rfl ?_
    refine wq_bipush rfl rfl ?_
    refine wq_iconst rfl rfl ?_
    refine wq_iconst rfl rfl ?_
    refine wq_iconst rfl rfl ?_
    refine wm_virtI (x := (wq_up F 0 64 4294967295) 0 41) (as := [36893488147419103232, 35, 0, 0, 0]) rfl rfl (by decide) (Nat.le_of_ble_eq_true rfl) rfl (Nat.le_of_ble_eq_true rfl) rfl (wm_emit hT1 (wm_ltof (wq_up_at (by decide)) hw) (by decide) (by decide) (by decide) (by decide)) ?_
    refine wq_istore_n rfl (hT1.i 41 rfl) (Nat.le_of_ble_eq_true rfl) (Or.inr ⟨_, rfl, (wq_notL hn)⟩) (L' := [36893488147419103232, c, n, (wq_up F 0 64 4294967295) 0 41]) rfl ?_
    refine wq_goto rfl rfl ?_
    refine wq_iconst rfl rfl ?_
    refine wq_iret rfl (by decide) rfl ?_
    unfold wf_unary
    first | (rw [if_pos (by omega)]; exact wq_k0) | (rw [if_neg (by omega), if_pos (by omega)]; exact wq_k0) | (rw [if_neg (by omega), if_neg (by omega), if_pos (by omega)]; exact wq_k0) | (rw [if_neg (by omega), if_neg (by omega), if_neg (by omega)]; exact wq_k0)
