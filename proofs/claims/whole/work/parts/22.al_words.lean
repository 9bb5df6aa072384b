/-! ===== 22: the words of the evaluated methods are the tables' (by wip/whole2/words3.py) ===== -/
theorem al_t1 {w : Jvm.Cond} (h : w ∈ tables_1_1) : w ∈ lw_tbl := List.mem_append_right _ (List.mem_append_left _ h)
theorem al_t2 {w : Jvm.Cond} (h : w ∈ tables_1_2) : w ∈ lw_tbl := List.mem_append_right _ (List.mem_append_right _ (List.mem_append_left _ h))
theorem al_t3 {w : Jvm.Cond} (h : w ∈ tables_1_3) : w ∈ lw_tbl := List.mem_append_right _ (List.mem_append_right _ (List.mem_append_right _ (List.mem_append_left _ h)))
theorem al_t4 {w : Jvm.Cond} (h : w ∈ tables_1_4) : w ∈ lw_tbl := List.mem_append_right _ (List.mem_append_right _ (List.mem_append_right _ (List.mem_append_right _ (List.mem_append_left _ h))))
theorem al_t5 {w : Jvm.Cond} (h : w ∈ tables_1_5) : w ∈ lw_tbl := List.mem_append_right _ (List.mem_append_right _ (List.mem_append_right _ (List.mem_append_right _ (List.mem_append_right _ (List.mem_append_left _ h)))))
theorem al_t6 {w : Jvm.Cond} (h : w ∈ tables_1_6) : w ∈ lw_tbl := List.mem_append_right _ (List.mem_append_right _ (List.mem_append_right _ (List.mem_append_right _ (List.mem_append_right _ (List.mem_append_right _ (List.mem_append_left _ h))))))
theorem al_t7 {w : Jvm.Cond} (h : w ∈ tables_1_7) : w ∈ lw_tbl := List.mem_append_right _ (List.mem_append_right _ (List.mem_append_right _ (List.mem_append_right _ (List.mem_append_right _ (List.mem_append_right _ (List.mem_append_right _ (List.mem_append_left _ h)))))))
theorem al_t8 {w : Jvm.Cond} (h : w ∈ tables_1_8) : w ∈ lw_tbl := List.mem_append_right _ (List.mem_append_right _ (List.mem_append_right _ (List.mem_append_right _ (List.mem_append_right _ (List.mem_append_right _ (List.mem_append_right _ (List.mem_append_right _ (List.mem_append_left _ h))))))))
theorem al_t9 {w : Jvm.Cond} (h : w ∈ tables_1_9) : w ∈ lw_tbl := List.mem_append_right _ (List.mem_append_right _ (List.mem_append_right _ (List.mem_append_right _ (List.mem_append_right _ (List.mem_append_right _ (List.mem_append_right _ (List.mem_append_right _ (List.mem_append_right _ (List.mem_append_left _ h)))))))))
theorem al_t10 {w : Jvm.Cond} (h : w ∈ tables_1_10) : w ∈ lw_tbl := List.mem_append_right _ (List.mem_append_right _ (List.mem_append_right _ (List.mem_append_right _ (List.mem_append_right _ (List.mem_append_right _ (List.mem_append_right _ (List.mem_append_right _ (List.mem_append_right _ (List.mem_append_right _ (List.mem_append_left _ h))))))))))
theorem al_t11 {w : Jvm.Cond} (h : w ∈ tables_1_11) : w ∈ lw_tbl := List.mem_append_right _ (List.mem_append_right _ (List.mem_append_right _ (List.mem_append_right _ (List.mem_append_right _ (List.mem_append_right _ (List.mem_append_right _ (List.mem_append_right _ (List.mem_append_right _ (List.mem_append_right _ (List.mem_append_right _ (List.mem_append_left _ h)))))))))))
theorem al_t12 {w : Jvm.Cond} (h : w ∈ tables_1_12) : w ∈ lw_tbl := List.mem_append_right _ (List.mem_append_right _ (List.mem_append_right _ (List.mem_append_right _ (List.mem_append_right _ (List.mem_append_right _ (List.mem_append_right _ (List.mem_append_right _ (List.mem_append_right _ (List.mem_append_right _ (List.mem_append_right _ (List.mem_append_right _ (List.mem_append_left _ h))))))))))))
theorem al_t13 {w : Jvm.Cond} (h : w ∈ tables_1_13) : w ∈ lw_tbl := List.mem_append_right _ (List.mem_append_right _ (List.mem_append_right _ (List.mem_append_right _ (List.mem_append_right _ (List.mem_append_right _ (List.mem_append_right _ (List.mem_append_right _ (List.mem_append_right _ (List.mem_append_right _ (List.mem_append_right _ (List.mem_append_right _ (List.mem_append_right _ (List.mem_append_left _ h)))))))))))))
theorem al_t14 {w : Jvm.Cond} (h : w ∈ tables_1_14) : w ∈ lw_tbl := List.mem_append_right _ (List.mem_append_right _ (List.mem_append_right _ (List.mem_append_right _ (List.mem_append_right _ (List.mem_append_right _ (List.mem_append_right _ (List.mem_append_right _ (List.mem_append_right _ (List.mem_append_right _ (List.mem_append_right _ (List.mem_append_right _ (List.mem_append_right _ (List.mem_append_right _ (List.mem_append_left _ h))))))))))))))
theorem al_t15 {w : Jvm.Cond} (h : w ∈ tables_1_15) : w ∈ lw_tbl := List.mem_append_right _ (List.mem_append_right _ (List.mem_append_right _ (List.mem_append_right _ (List.mem_append_right _ (List.mem_append_right _ (List.mem_append_right _ (List.mem_append_right _ (List.mem_append_right _ (List.mem_append_right _ (List.mem_append_right _ (List.mem_append_right _ (List.mem_append_right _ (List.mem_append_right _ (List.mem_append_right _ (List.mem_append_left _ h)))))))))))))))
theorem al_t16 {w : Jvm.Cond} (h : w ∈ tables_1_16) : w ∈ lw_tbl := List.mem_append_right _ (List.mem_append_right _ (List.mem_append_right _ (List.mem_append_right _ (List.mem_append_right _ (List.mem_append_right _ (List.mem_append_right _ (List.mem_append_right _ (List.mem_append_right _ (List.mem_append_right _ (List.mem_append_right _ (List.mem_append_right _ (List.mem_append_right _ (List.mem_append_right _ (List.mem_append_right _ (List.mem_append_right _ (List.mem_append_left _ h))))))))))))))))
theorem al_t17 {w : Jvm.Cond} (h : w ∈ tables_1_17) : w ∈ lw_tbl := List.mem_append_right _ (List.mem_append_right _ (List.mem_append_right _ (List.mem_append_right _ (List.mem_append_right _ (List.mem_append_right _ (List.mem_append_right _ (List.mem_append_right _ (List.mem_append_right _ (List.mem_append_right _ (List.mem_append_right _ (List.mem_append_right _ (List.mem_append_right _ (List.mem_append_right _ (List.mem_append_right _ (List.mem_append_right _ (List.mem_append_right _ (List.mem_append_left _ h)))))))))))))))))
theorem al_t18 {w : Jvm.Cond} (h : w ∈ tables_1_18) : w ∈ lw_tbl := List.mem_append_right _ (List.mem_append_right _ (List.mem_append_right _ (List.mem_append_right _ (List.mem_append_right _ (List.mem_append_right _ (List.mem_append_right _ (List.mem_append_right _ (List.mem_append_right _ (List.mem_append_right _ (List.mem_append_right _ (List.mem_append_right _ (List.mem_append_right _ (List.mem_append_right _ (List.mem_append_right _ (List.mem_append_right _ (List.mem_append_right _ (List.mem_append_right _ h)))))))))))))))))
theorem al_s {w : Jvm.Cond} {i : Nat} (h : (k2_sels lw_privs)[i]? = some w) : w ∈ lw_tbl := List.mem_append_left _ (List.mem_of_getElem? h)
set_option maxRecDepth 100000 in
theorem al_wm_X8_put : ∀ w ∈ ev_blk (ev_unM al_mX8_put, 0), w ∈ lw_tbl := by
  show ∀ w ∈ [Jvm.Cond.code al_yX8_put al_mX8_put.2.1 al_mX8_put.2.2.1 al_mX8_put.2.2.2.1, Jvm.Cond.initialized al_yX8_put.cls, Jvm.Cond.instanceMethod al_yX8_put, Jvm.Cond.selects al_yX8_put.cls al_yX8_put al_yX8_put], w ∈ lw_tbl
  exact List.forall_mem_cons.mpr ⟨(al_t1 (List.mem_of_getElem? (i := 121) rfl)), List.forall_mem_cons.mpr ⟨(al_t1 (List.mem_of_getElem? (i := 2) (by decide +kernel))), List.forall_mem_cons.mpr ⟨(al_t1 (List.mem_of_getElem? (i := 119) (by decide +kernel))), List.forall_mem_cons.mpr ⟨(al_t1 (List.mem_of_getElem? (i := 120) (by decide +kernel))), fun _ h => absurd h List.not_mem_nil⟩⟩⟩⟩
set_option maxRecDepth 100000 in
theorem al_wm_J0_charAt_5068e : ∀ w ∈ ev_blk (ev_unM al_mJ0_charAt_5068e, 0), w ∈ lw_tbl := by
  show ∀ w ∈ [Jvm.Cond.code al_yJ0_charAt_5068e al_mJ0_charAt_5068e.2.1 al_mJ0_charAt_5068e.2.2.1 al_mJ0_charAt_5068e.2.2.2.1, Jvm.Cond.initialized al_yJ0_charAt_5068e.cls, Jvm.Cond.instanceMethod al_yJ0_charAt_5068e, Jvm.Cond.selects al_yJ0_charAt_5068e.cls al_yJ0_charAt_5068e al_yJ0_charAt_5068e], w ∈ lw_tbl
  exact List.forall_mem_cons.mpr ⟨(al_t1 (List.mem_of_getElem? (i := 68) rfl)), List.forall_mem_cons.mpr ⟨(al_t1 (List.mem_of_getElem? (i := 3) (by decide +kernel))), List.forall_mem_cons.mpr ⟨(al_t1 (List.mem_of_getElem? (i := 66) (by decide +kernel))), List.forall_mem_cons.mpr ⟨(al_t1 (List.mem_of_getElem? (i := 67) (by decide +kernel))), fun _ h => absurd h List.not_mem_nil⟩⟩⟩⟩
set_option maxRecDepth 100000 in
theorem al_wm_J0_isLatin1_aae02 : ∀ w ∈ ev_blk (ev_unM al_mJ0_isLatin1_aae02, 0), w ∈ lw_tbl := by
  show ∀ w ∈ [Jvm.Cond.code al_yJ0_isLatin1_aae02 al_mJ0_isLatin1_aae02.2.1 al_mJ0_isLatin1_aae02.2.2.1 al_mJ0_isLatin1_aae02.2.2.2.1, Jvm.Cond.initialized al_yJ0_isLatin1_aae02.cls, Jvm.Cond.instanceMethod al_yJ0_isLatin1_aae02, Jvm.Cond.selects al_yJ0_isLatin1_aae02.cls al_yJ0_isLatin1_aae02 al_yJ0_isLatin1_aae02], w ∈ lw_tbl
  exact List.forall_mem_cons.mpr ⟨(al_t1 (List.mem_of_getElem? (i := 72) rfl)), List.forall_mem_cons.mpr ⟨(al_t1 (List.mem_of_getElem? (i := 3) (by decide +kernel))), List.forall_mem_cons.mpr ⟨(al_t1 (List.mem_of_getElem? (i := 70) (by decide +kernel))), List.forall_mem_cons.mpr ⟨(al_t1 (List.mem_of_getElem? (i := 71) (by decide +kernel))), fun _ h => absurd h List.not_mem_nil⟩⟩⟩⟩
set_option maxRecDepth 100000 in
theorem al_wm_J1_charAt_3b067 : ∀ w ∈ ev_blk (ev_unM al_mJ1_charAt_3b067, 1), w ∈ lw_tbl := by
  show ∀ w ∈ [Jvm.Cond.code al_yJ1_charAt_3b067 al_mJ1_charAt_3b067.2.1 al_mJ1_charAt_3b067.2.2.1 al_mJ1_charAt_3b067.2.2.2.1, Jvm.Cond.initialized al_yJ1_charAt_3b067.cls, Jvm.Cond.static al_yJ1_charAt_3b067], w ∈ lw_tbl
  exact List.forall_mem_cons.mpr ⟨(al_t1 (List.mem_of_getElem? (i := 75) rfl)), List.forall_mem_cons.mpr ⟨(al_t1 (List.mem_of_getElem? (i := 4) (by decide +kernel))), List.forall_mem_cons.mpr ⟨(al_t1 (List.mem_of_getElem? (i := 74) (by decide +kernel))), fun _ h => absurd h List.not_mem_nil⟩⟩⟩
set_option maxRecDepth 100000 in
theorem al_wm_J0_checkIndex_df160 : ∀ w ∈ ev_blk (ev_unM al_mJ0_checkIndex_df160, 1), w ∈ lw_tbl := by
  show ∀ w ∈ [Jvm.Cond.code al_yJ0_checkIndex_df160 al_mJ0_checkIndex_df160.2.1 al_mJ0_checkIndex_df160.2.2.1 al_mJ0_checkIndex_df160.2.2.2.1, Jvm.Cond.initialized al_yJ0_checkIndex_df160.cls, Jvm.Cond.static al_yJ0_checkIndex_df160], w ∈ lw_tbl
  exact List.forall_mem_cons.mpr ⟨(al_t1 (List.mem_of_getElem? (i := 78) rfl)), List.forall_mem_cons.mpr ⟨(al_t1 (List.mem_of_getElem? (i := 3) (by decide +kernel))), List.forall_mem_cons.mpr ⟨(al_t1 (List.mem_of_getElem? (i := 77) (by decide +kernel))), fun _ h => absurd h List.not_mem_nil⟩⟩⟩
set_option maxRecDepth 100000 in
theorem al_wm_J3_checkIndex_8e157 : ∀ w ∈ ev_blk (ev_unM al_mJ3_checkIndex_8e157, 1), w ∈ lw_tbl := by
  show ∀ w ∈ [Jvm.Cond.code al_yJ3_checkIndex_8e157 al_mJ3_checkIndex_8e157.2.1 al_mJ3_checkIndex_8e157.2.2.1 al_mJ3_checkIndex_8e157.2.2.2.1, Jvm.Cond.initialized al_yJ3_checkIndex_8e157.cls, Jvm.Cond.static al_yJ3_checkIndex_8e157], w ∈ lw_tbl
  exact List.forall_mem_cons.mpr ⟨(al_t1 (List.mem_of_getElem? (i := 83) rfl)), List.forall_mem_cons.mpr ⟨(al_t1 (List.mem_of_getElem? (i := 5) (by decide +kernel))), List.forall_mem_cons.mpr ⟨(al_t1 (List.mem_of_getElem? (i := 82) (by decide +kernel))), fun _ h => absurd h List.not_mem_nil⟩⟩⟩
set_option maxRecDepth 100000 in
theorem al_wm_J0_length_8abf5 : ∀ w ∈ ev_blk (ev_unM al_mJ0_length_8abf5, 0), w ∈ lw_tbl := by
  show ∀ w ∈ [Jvm.Cond.code al_yJ0_length_8abf5 al_mJ0_length_8abf5.2.1 al_mJ0_length_8abf5.2.2.1 al_mJ0_length_8abf5.2.2.2.1, Jvm.Cond.initialized al_yJ0_length_8abf5.cls, Jvm.Cond.instanceMethod al_yJ0_length_8abf5, Jvm.Cond.selects al_yJ0_length_8abf5.cls al_yJ0_length_8abf5 al_yJ0_length_8abf5], w ∈ lw_tbl
  exact List.forall_mem_cons.mpr ⟨(al_t1 (List.mem_of_getElem? (i := 58) rfl)), List.forall_mem_cons.mpr ⟨(al_t1 (List.mem_of_getElem? (i := 3) (by decide +kernel))), List.forall_mem_cons.mpr ⟨(al_t1 (List.mem_of_getElem? (i := 56) (by decide +kernel))), List.forall_mem_cons.mpr ⟨(al_t1 (List.mem_of_getElem? (i := 57) (by decide +kernel))), fun _ h => absurd h List.not_mem_nil⟩⟩⟩⟩
set_option maxRecDepth 100000 in
theorem al_wm_J0_coder_7d493 : ∀ w ∈ ev_blk (ev_unM al_mJ0_coder_7d493, 0), w ∈ lw_tbl := by
  show ∀ w ∈ [Jvm.Cond.code al_yJ0_coder_7d493 al_mJ0_coder_7d493.2.1 al_mJ0_coder_7d493.2.2.1 al_mJ0_coder_7d493.2.2.2.1, Jvm.Cond.initialized al_yJ0_coder_7d493.cls, Jvm.Cond.instanceMethod al_yJ0_coder_7d493, Jvm.Cond.selects al_yJ0_coder_7d493.cls al_yJ0_coder_7d493 al_yJ0_coder_7d493], w ∈ lw_tbl
  exact List.forall_mem_cons.mpr ⟨(al_t1 (List.mem_of_getElem? (i := 62) rfl)), List.forall_mem_cons.mpr ⟨(al_t1 (List.mem_of_getElem? (i := 3) (by decide +kernel))), List.forall_mem_cons.mpr ⟨(al_t1 (List.mem_of_getElem? (i := 60) (by decide +kernel))), List.forall_mem_cons.mpr ⟨(al_t1 (List.mem_of_getElem? (i := 61) (by decide +kernel))), fun _ h => absurd h List.not_mem_nil⟩⟩⟩⟩
set_option maxRecDepth 100000 in
theorem al_wm_X8_find : ∀ w ∈ ev_blk (ev_unM al_mX8_find, 0), w ∈ lw_tbl := by
  show ∀ w ∈ [Jvm.Cond.code al_yX8_find al_mX8_find.2.1 al_mX8_find.2.2.1 al_mX8_find.2.2.2.1, Jvm.Cond.initialized al_yX8_find.cls, Jvm.Cond.instanceMethod al_yX8_find, Jvm.Cond.selects al_yX8_find.cls al_yX8_find al_yX8_find], w ∈ lw_tbl
  exact List.forall_mem_cons.mpr ⟨(al_t1 (List.mem_of_getElem? (i := 110) rfl)), List.forall_mem_cons.mpr ⟨(al_t1 (List.mem_of_getElem? (i := 2) (by decide +kernel))), List.forall_mem_cons.mpr ⟨(al_t1 (List.mem_of_getElem? (i := 109) (by decide +kernel))), List.forall_mem_cons.mpr ⟨(al_s (i := 1) (by decide +kernel)), fun _ h => absurd h List.not_mem_nil⟩⟩⟩⟩
set_option maxRecDepth 100000 in
theorem al_wm_X8_add : ∀ w ∈ ev_blk (ev_unM al_mX8_add, 0), w ∈ lw_tbl := by
  show ∀ w ∈ [Jvm.Cond.code al_yX8_add al_mX8_add.2.1 al_mX8_add.2.2.1 al_mX8_add.2.2.2.1, Jvm.Cond.initialized al_yX8_add.cls, Jvm.Cond.instanceMethod al_yX8_add, Jvm.Cond.selects al_yX8_add.cls al_yX8_add al_yX8_add], w ∈ lw_tbl
  exact List.forall_mem_cons.mpr ⟨(al_t1 (List.mem_of_getElem? (i := 114) rfl)), List.forall_mem_cons.mpr ⟨(al_t1 (List.mem_of_getElem? (i := 2) (by decide +kernel))), List.forall_mem_cons.mpr ⟨(al_t1 (List.mem_of_getElem? (i := 113) (by decide +kernel))), List.forall_mem_cons.mpr ⟨(al_s (i := 2) (by decide +kernel)), fun _ h => absurd h List.not_mem_nil⟩⟩⟩⟩
set_option maxRecDepth 100000 in
theorem al_wm_X8_begin : ∀ w ∈ ev_blk (ev_unM al_mX8_begin, 0), w ∈ lw_tbl := by
  show ∀ w ∈ [Jvm.Cond.code al_yX8_begin al_mX8_begin.2.1 al_mX8_begin.2.2.1 al_mX8_begin.2.2.2.1, Jvm.Cond.initialized al_yX8_begin.cls, Jvm.Cond.instanceMethod al_yX8_begin, Jvm.Cond.selects al_yX8_begin.cls al_yX8_begin al_yX8_begin], w ∈ lw_tbl
  exact List.forall_mem_cons.mpr ⟨(al_t3 (List.mem_of_getElem? (i := 95) rfl)), List.forall_mem_cons.mpr ⟨(al_t1 (List.mem_of_getElem? (i := 2) (by decide +kernel))), List.forall_mem_cons.mpr ⟨(al_t3 (List.mem_of_getElem? (i := 93) (by decide +kernel))), List.forall_mem_cons.mpr ⟨(al_t3 (List.mem_of_getElem? (i := 94) (by decide +kernel))), fun _ h => absurd h List.not_mem_nil⟩⟩⟩⟩
set_option maxRecDepth 100000 in
theorem al_wm_X8_keepLatent : ∀ w ∈ ev_blk (ev_unM al_mX8_keepLatent, 0), w ∈ lw_tbl := by
  show ∀ w ∈ [Jvm.Cond.code al_yX8_keepLatent al_mX8_keepLatent.2.1 al_mX8_keepLatent.2.2.1 al_mX8_keepLatent.2.2.2.1, Jvm.Cond.initialized al_yX8_keepLatent.cls, Jvm.Cond.instanceMethod al_yX8_keepLatent, Jvm.Cond.selects al_yX8_keepLatent.cls al_yX8_keepLatent al_yX8_keepLatent], w ∈ lw_tbl
  exact List.forall_mem_cons.mpr ⟨(al_t1 (List.mem_of_getElem? (i := 106) rfl)), List.forall_mem_cons.mpr ⟨(al_t1 (List.mem_of_getElem? (i := 2) (by decide +kernel))), List.forall_mem_cons.mpr ⟨(al_t1 (List.mem_of_getElem? (i := 104) (by decide +kernel))), List.forall_mem_cons.mpr ⟨(al_t1 (List.mem_of_getElem? (i := 105) (by decide +kernel))), fun _ h => absurd h List.not_mem_nil⟩⟩⟩⟩
set_option maxRecDepth 100000 in
theorem al_wm_X8_keepFixed : ∀ w ∈ ev_blk (ev_unM al_mX8_keepFixed, 0), w ∈ lw_tbl := by
  show ∀ w ∈ [Jvm.Cond.code al_yX8_keepFixed al_mX8_keepFixed.2.1 al_mX8_keepFixed.2.2.1 al_mX8_keepFixed.2.2.2.1, Jvm.Cond.initialized al_yX8_keepFixed.cls, Jvm.Cond.instanceMethod al_yX8_keepFixed, Jvm.Cond.selects al_yX8_keepFixed.cls al_yX8_keepFixed al_yX8_keepFixed], w ∈ lw_tbl
  exact List.forall_mem_cons.mpr ⟨(al_t5 (List.mem_of_getElem? (i := 105) rfl)), List.forall_mem_cons.mpr ⟨(al_t1 (List.mem_of_getElem? (i := 2) (by decide +kernel))), List.forall_mem_cons.mpr ⟨(al_t5 (List.mem_of_getElem? (i := 103) (by decide +kernel))), List.forall_mem_cons.mpr ⟨(al_t5 (List.mem_of_getElem? (i := 104) (by decide +kernel))), fun _ h => absurd h List.not_mem_nil⟩⟩⟩⟩
set_option maxRecDepth 100000 in
theorem al_wm_X8_putWords : ∀ w ∈ ev_blk (ev_unM al_mX8_putWords, 0), w ∈ lw_tbl := by
  show ∀ w ∈ [Jvm.Cond.code al_yX8_putWords al_mX8_putWords.2.1 al_mX8_putWords.2.2.1 al_mX8_putWords.2.2.2.1, Jvm.Cond.initialized al_yX8_putWords.cls, Jvm.Cond.instanceMethod al_yX8_putWords, Jvm.Cond.selects al_yX8_putWords.cls al_yX8_putWords al_yX8_putWords], w ∈ lw_tbl
  exact List.forall_mem_cons.mpr ⟨(al_t3 (List.mem_of_getElem? (i := 100) rfl)), List.forall_mem_cons.mpr ⟨(al_t1 (List.mem_of_getElem? (i := 2) (by decide +kernel))), List.forall_mem_cons.mpr ⟨(al_t3 (List.mem_of_getElem? (i := 98) (by decide +kernel))), List.forall_mem_cons.mpr ⟨(al_t3 (List.mem_of_getElem? (i := 99) (by decide +kernel))), fun _ h => absurd h List.not_mem_nil⟩⟩⟩⟩
set_option maxRecDepth 100000 in
theorem al_wm_X1_latent : ∀ w ∈ ev_blk (ev_unM al_mX1_latent, 0), w ∈ lw_tbl := by
  show ∀ w ∈ [Jvm.Cond.code al_yX1_latent al_mX1_latent.2.1 al_mX1_latent.2.2.1 al_mX1_latent.2.2.2.1, Jvm.Cond.initialized al_yX1_latent.cls, Jvm.Cond.instanceMethod al_yX1_latent, Jvm.Cond.selects al_yX1_latent.cls al_yX1_latent al_yX1_latent], w ∈ lw_tbl
  exact List.forall_mem_cons.mpr ⟨(al_t5 (List.mem_of_getElem? (i := 44) rfl)), List.forall_mem_cons.mpr ⟨(al_t1 (List.mem_of_getElem? (i := 17) (by decide +kernel))), List.forall_mem_cons.mpr ⟨(al_t5 (List.mem_of_getElem? (i := 43) (by decide +kernel))), List.forall_mem_cons.mpr ⟨(al_s (i := 5) (by decide +kernel)), fun _ h => absurd h List.not_mem_nil⟩⟩⟩⟩
set_option maxRecDepth 100000 in
theorem al_wm_X1_fixed : ∀ w ∈ ev_blk (ev_unM al_mX1_fixed, 0), w ∈ lw_tbl := by
  show ∀ w ∈ [Jvm.Cond.code al_yX1_fixed al_mX1_fixed.2.1 al_mX1_fixed.2.2.1 al_mX1_fixed.2.2.2.1, Jvm.Cond.initialized al_yX1_fixed.cls, Jvm.Cond.instanceMethod al_yX1_fixed, Jvm.Cond.selects al_yX1_fixed.cls al_yX1_fixed al_yX1_fixed], w ∈ lw_tbl
  exact List.forall_mem_cons.mpr ⟨(al_t5 (List.mem_of_getElem? (i := 101) rfl)), List.forall_mem_cons.mpr ⟨(al_t1 (List.mem_of_getElem? (i := 17) (by decide +kernel))), List.forall_mem_cons.mpr ⟨(al_t5 (List.mem_of_getElem? (i := 100) (by decide +kernel))), List.forall_mem_cons.mpr ⟨(al_s (i := 6) (by decide +kernel)), fun _ h => absurd h List.not_mem_nil⟩⟩⟩⟩
set_option maxRecDepth 100000 in
theorem al_wm_X12_init : ∀ w ∈ ev_blk (ev_unM al_mX12_init, 2), w ∈ lw_tbl := by
  show ∀ w ∈ [Jvm.Cond.code al_yX12_init al_mX12_init.2.1 al_mX12_init.2.2.1 al_mX12_init.2.2.2.1, Jvm.Cond.initialized al_yX12_init.cls, Jvm.Cond.instanceMethod al_yX12_init], w ∈ lw_tbl
  exact List.forall_mem_cons.mpr ⟨(al_t11 (List.mem_of_getElem? (i := 168) rfl)), List.forall_mem_cons.mpr ⟨(al_t1 (List.mem_of_getElem? (i := 30) (by decide +kernel))), List.forall_mem_cons.mpr ⟨(al_t11 (List.mem_of_getElem? (i := 167) (by decide +kernel))), fun _ h => absurd h List.not_mem_nil⟩⟩⟩
set_option maxRecDepth 100000 in
theorem al_wm_X12_internBuilt : ∀ w ∈ ev_blk (ev_unM al_mX12_internBuilt, 0), w ∈ lw_tbl := by
  show ∀ w ∈ [Jvm.Cond.code al_yX12_internBuilt al_mX12_internBuilt.2.1 al_mX12_internBuilt.2.2.1 al_mX12_internBuilt.2.2.2.1, Jvm.Cond.initialized al_yX12_internBuilt.cls, Jvm.Cond.instanceMethod al_yX12_internBuilt, Jvm.Cond.selects al_yX12_internBuilt.cls al_yX12_internBuilt al_yX12_internBuilt], w ∈ lw_tbl
  exact List.forall_mem_cons.mpr ⟨(al_t11 (List.mem_of_getElem? (i := 179) rfl)), List.forall_mem_cons.mpr ⟨(al_t1 (List.mem_of_getElem? (i := 30) (by decide +kernel))), List.forall_mem_cons.mpr ⟨(al_t11 (List.mem_of_getElem? (i := 178) (by decide +kernel))), List.forall_mem_cons.mpr ⟨(al_s (i := 172) (by decide +kernel)), fun _ h => absurd h List.not_mem_nil⟩⟩⟩⟩
set_option maxRecDepth 100000 in
theorem al_wm_X12_internTypes : ∀ w ∈ ev_blk (ev_unM al_mX12_internTypes, 0), w ∈ lw_tbl := by
  show ∀ w ∈ [Jvm.Cond.code al_yX12_internTypes al_mX12_internTypes.2.1 al_mX12_internTypes.2.2.1 al_mX12_internTypes.2.2.2.1, Jvm.Cond.initialized al_yX12_internTypes.cls, Jvm.Cond.instanceMethod al_yX12_internTypes, Jvm.Cond.selects al_yX12_internTypes.cls al_yX12_internTypes al_yX12_internTypes], w ∈ lw_tbl
  exact List.forall_mem_cons.mpr ⟨(al_t11 (List.mem_of_getElem? (i := 222) rfl)), List.forall_mem_cons.mpr ⟨(al_t1 (List.mem_of_getElem? (i := 30) (by decide +kernel))), List.forall_mem_cons.mpr ⟨(al_t11 (List.mem_of_getElem? (i := 221) (by decide +kernel))), List.forall_mem_cons.mpr ⟨(al_s (i := 177) (by decide +kernel)), fun _ h => absurd h List.not_mem_nil⟩⟩⟩⟩
set_option maxRecDepth 100000 in
theorem al_wm_X12_internNames : ∀ w ∈ ev_blk (ev_unM al_mX12_internNames, 0), w ∈ lw_tbl := by
  show ∀ w ∈ [Jvm.Cond.code al_yX12_internNames al_mX12_internNames.2.1 al_mX12_internNames.2.2.1 al_mX12_internNames.2.2.2.1, Jvm.Cond.initialized al_yX12_internNames.cls, Jvm.Cond.instanceMethod al_yX12_internNames, Jvm.Cond.selects al_yX12_internNames.cls al_yX12_internNames al_yX12_internNames], w ∈ lw_tbl
  exact List.forall_mem_cons.mpr ⟨(al_t12 (List.mem_of_getElem? (i := 2) rfl)), List.forall_mem_cons.mpr ⟨(al_t1 (List.mem_of_getElem? (i := 30) (by decide +kernel))), List.forall_mem_cons.mpr ⟨(al_t12 (List.mem_of_getElem? (i := 1) (by decide +kernel))), List.forall_mem_cons.mpr ⟨(al_s (i := 178) (by decide +kernel)), fun _ h => absurd h List.not_mem_nil⟩⟩⟩⟩
set_option maxRecDepth 100000 in
theorem al_wm_X12_hidden : ∀ w ∈ ev_blk (ev_unM al_mX12_hidden, 0), w ∈ lw_tbl := by
  show ∀ w ∈ [Jvm.Cond.code al_yX12_hidden al_mX12_hidden.2.1 al_mX12_hidden.2.2.1 al_mX12_hidden.2.2.2.1, Jvm.Cond.initialized al_yX12_hidden.cls, Jvm.Cond.instanceMethod al_yX12_hidden, Jvm.Cond.selects al_yX12_hidden.cls al_yX12_hidden al_yX12_hidden], w ∈ lw_tbl
  exact List.forall_mem_cons.mpr ⟨(al_t11 (List.mem_of_getElem? (i := 184) rfl)), List.forall_mem_cons.mpr ⟨(al_t1 (List.mem_of_getElem? (i := 30) (by decide +kernel))), List.forall_mem_cons.mpr ⟨(al_t11 (List.mem_of_getElem? (i := 183) (by decide +kernel))), List.forall_mem_cons.mpr ⟨(al_s (i := 173) (by decide +kernel)), fun _ h => absurd h List.not_mem_nil⟩⟩⟩⟩
set_option maxRecDepth 100000 in
theorem al_wm_X12_word : ∀ w ∈ ev_blk (ev_unM al_mX12_word, 0), w ∈ lw_tbl := by
  show ∀ w ∈ [Jvm.Cond.code al_yX12_word al_mX12_word.2.1 al_mX12_word.2.2.1 al_mX12_word.2.2.2.1, Jvm.Cond.initialized al_yX12_word.cls, Jvm.Cond.instanceMethod al_yX12_word, Jvm.Cond.selects al_yX12_word.cls al_yX12_word al_yX12_word], w ∈ lw_tbl
  exact List.forall_mem_cons.mpr ⟨(al_t11 (List.mem_of_getElem? (i := 188) rfl)), List.forall_mem_cons.mpr ⟨(al_t1 (List.mem_of_getElem? (i := 30) (by decide +kernel))), List.forall_mem_cons.mpr ⟨(al_t11 (List.mem_of_getElem? (i := 187) (by decide +kernel))), List.forall_mem_cons.mpr ⟨(al_s (i := 174) (by decide +kernel)), fun _ h => absurd h List.not_mem_nil⟩⟩⟩⟩
set_option maxRecDepth 100000 in
theorem al_wm_X12_intern : ∀ w ∈ ev_blk (ev_unM al_mX12_intern, 0), w ∈ lw_tbl := by
  show ∀ w ∈ [Jvm.Cond.code al_yX12_intern al_mX12_intern.2.1 al_mX12_intern.2.2.1 al_mX12_intern.2.2.2.1, Jvm.Cond.initialized al_yX12_intern.cls, Jvm.Cond.instanceMethod al_yX12_intern, Jvm.Cond.selects al_yX12_intern.cls al_yX12_intern al_yX12_intern], w ∈ lw_tbl
  exact List.forall_mem_cons.mpr ⟨(al_t11 (List.mem_of_getElem? (i := 192) rfl)), List.forall_mem_cons.mpr ⟨(al_t1 (List.mem_of_getElem? (i := 30) (by decide +kernel))), List.forall_mem_cons.mpr ⟨(al_t11 (List.mem_of_getElem? (i := 191) (by decide +kernel))), List.forall_mem_cons.mpr ⟨(al_s (i := 175) (by decide +kernel)), fun _ h => absurd h List.not_mem_nil⟩⟩⟩⟩
set_option maxRecDepth 100000 in
theorem al_wm_X12_hashOf : ∀ w ∈ ev_blk (ev_unM al_mX12_hashOf, 0), w ∈ lw_tbl := by
  show ∀ w ∈ [Jvm.Cond.code al_yX12_hashOf al_mX12_hashOf.2.1 al_mX12_hashOf.2.2.1 al_mX12_hashOf.2.2.2.1, Jvm.Cond.initialized al_yX12_hashOf.cls, Jvm.Cond.instanceMethod al_yX12_hashOf, Jvm.Cond.selects al_yX12_hashOf.cls al_yX12_hashOf al_yX12_hashOf], w ∈ lw_tbl
  exact List.forall_mem_cons.mpr ⟨(al_t11 (List.mem_of_getElem? (i := 196) rfl)), List.forall_mem_cons.mpr ⟨(al_t1 (List.mem_of_getElem? (i := 30) (by decide +kernel))), List.forall_mem_cons.mpr ⟨(al_t11 (List.mem_of_getElem? (i := 195) (by decide +kernel))), List.forall_mem_cons.mpr ⟨(al_s (i := 176) (by decide +kernel)), fun _ h => absurd h List.not_mem_nil⟩⟩⟩⟩
set_option maxRecDepth 100000 in
theorem al_wm_X12_compile : ∀ w ∈ ev_blk (ev_unM al_mX12_compile, 0), w ∈ lw_tbl := by
  show ∀ w ∈ [Jvm.Cond.code al_yX12_compile al_mX12_compile.2.1 al_mX12_compile.2.2.1 al_mX12_compile.2.2.2.1, Jvm.Cond.initialized al_yX12_compile.cls, Jvm.Cond.instanceMethod al_yX12_compile, Jvm.Cond.selects al_yX12_compile.cls al_yX12_compile al_yX12_compile], w ∈ lw_tbl
  exact List.forall_mem_cons.mpr ⟨(al_t14 (List.mem_of_getElem? (i := 52) rfl)), List.forall_mem_cons.mpr ⟨(al_t1 (List.mem_of_getElem? (i := 30) (by decide +kernel))), List.forall_mem_cons.mpr ⟨(al_t14 (List.mem_of_getElem? (i := 50) (by decide +kernel))), List.forall_mem_cons.mpr ⟨(al_t14 (List.mem_of_getElem? (i := 51) (by decide +kernel))), fun _ h => absurd h List.not_mem_nil⟩⟩⟩⟩
set_option maxRecDepth 100000 in
theorem al_wm_X12_forgetFrom : ∀ w ∈ ev_blk (ev_unM al_mX12_forgetFrom, 0), w ∈ lw_tbl := by
  show ∀ w ∈ [Jvm.Cond.code al_yX12_forgetFrom al_mX12_forgetFrom.2.1 al_mX12_forgetFrom.2.2.1 al_mX12_forgetFrom.2.2.2.1, Jvm.Cond.initialized al_yX12_forgetFrom.cls, Jvm.Cond.instanceMethod al_yX12_forgetFrom, Jvm.Cond.selects al_yX12_forgetFrom.cls al_yX12_forgetFrom al_yX12_forgetFrom], w ∈ lw_tbl
  exact List.forall_mem_cons.mpr ⟨(al_t14 (List.mem_of_getElem? (i := 56) rfl)), List.forall_mem_cons.mpr ⟨(al_t1 (List.mem_of_getElem? (i := 30) (by decide +kernel))), List.forall_mem_cons.mpr ⟨(al_t14 (List.mem_of_getElem? (i := 55) (by decide +kernel))), List.forall_mem_cons.mpr ⟨(al_s (i := 179) (by decide +kernel)), fun _ h => absurd h List.not_mem_nil⟩⟩⟩⟩
set_option maxRecDepth 100000 in
theorem al_wm_X12_readTokens : ∀ w ∈ ev_blk (ev_unM al_mX12_readTokens, 0), w ∈ lw_tbl := by
  show ∀ w ∈ [Jvm.Cond.code al_yX12_readTokens al_mX12_readTokens.2.1 al_mX12_readTokens.2.2.1 al_mX12_readTokens.2.2.2.1, Jvm.Cond.initialized al_yX12_readTokens.cls, Jvm.Cond.instanceMethod al_yX12_readTokens, Jvm.Cond.selects al_yX12_readTokens.cls al_yX12_readTokens al_yX12_readTokens], w ∈ lw_tbl
  exact List.forall_mem_cons.mpr ⟨(al_t14 (List.mem_of_getElem? (i := 60) rfl)), List.forall_mem_cons.mpr ⟨(al_t1 (List.mem_of_getElem? (i := 30) (by decide +kernel))), List.forall_mem_cons.mpr ⟨(al_t14 (List.mem_of_getElem? (i := 59) (by decide +kernel))), List.forall_mem_cons.mpr ⟨(al_s (i := 180) (by decide +kernel)), fun _ h => absurd h List.not_mem_nil⟩⟩⟩⟩
set_option maxRecDepth 100000 in
theorem al_wm_X12_skip : ∀ w ∈ ev_blk (ev_unM al_mX12_skip, 0), w ∈ lw_tbl := by
  show ∀ w ∈ [Jvm.Cond.code al_yX12_skip al_mX12_skip.2.1 al_mX12_skip.2.2.1 al_mX12_skip.2.2.2.1, Jvm.Cond.initialized al_yX12_skip.cls, Jvm.Cond.instanceMethod al_yX12_skip, Jvm.Cond.selects al_yX12_skip.cls al_yX12_skip al_yX12_skip], w ∈ lw_tbl
  exact List.forall_mem_cons.mpr ⟨(al_t14 (List.mem_of_getElem? (i := 64) rfl)), List.forall_mem_cons.mpr ⟨(al_t1 (List.mem_of_getElem? (i := 30) (by decide +kernel))), List.forall_mem_cons.mpr ⟨(al_t14 (List.mem_of_getElem? (i := 63) (by decide +kernel))), List.forall_mem_cons.mpr ⟨(al_s (i := 181) (by decide +kernel)), fun _ h => absurd h List.not_mem_nil⟩⟩⟩⟩
set_option maxRecDepth 100000 in
theorem al_wm_X12_at : ∀ w ∈ ev_blk (ev_unM al_mX12_at, 0), w ∈ lw_tbl := by
  show ∀ w ∈ [Jvm.Cond.code al_yX12_at al_mX12_at.2.1 al_mX12_at.2.2.1 al_mX12_at.2.2.2.1, Jvm.Cond.initialized al_yX12_at.cls, Jvm.Cond.instanceMethod al_yX12_at, Jvm.Cond.selects al_yX12_at.cls al_yX12_at al_yX12_at], w ∈ lw_tbl
  exact List.forall_mem_cons.mpr ⟨(al_t14 (List.mem_of_getElem? (i := 68) rfl)), List.forall_mem_cons.mpr ⟨(al_t1 (List.mem_of_getElem? (i := 30) (by decide +kernel))), List.forall_mem_cons.mpr ⟨(al_t14 (List.mem_of_getElem? (i := 67) (by decide +kernel))), List.forall_mem_cons.mpr ⟨(al_s (i := 182) (by decide +kernel)), fun _ h => absurd h List.not_mem_nil⟩⟩⟩⟩
set_option maxRecDepth 100000 in
theorem al_wm_X12_readText : ∀ w ∈ ev_blk (ev_unM al_mX12_readText, 0), w ∈ lw_tbl := by
  show ∀ w ∈ [Jvm.Cond.code al_yX12_readText al_mX12_readText.2.1 al_mX12_readText.2.2.1 al_mX12_readText.2.2.2.1, Jvm.Cond.initialized al_yX12_readText.cls, Jvm.Cond.instanceMethod al_yX12_readText, Jvm.Cond.selects al_yX12_readText.cls al_yX12_readText al_yX12_readText], w ∈ lw_tbl
  exact List.forall_mem_cons.mpr ⟨(al_t14 (List.mem_of_getElem? (i := 137) rfl)), List.forall_mem_cons.mpr ⟨(al_t1 (List.mem_of_getElem? (i := 30) (by decide +kernel))), List.forall_mem_cons.mpr ⟨(al_t14 (List.mem_of_getElem? (i := 136) (by decide +kernel))), List.forall_mem_cons.mpr ⟨(al_s (i := 189) (by decide +kernel)), fun _ h => absurd h List.not_mem_nil⟩⟩⟩⟩
set_option maxRecDepth 100000 in
theorem al_wm_X12_emit : ∀ w ∈ ev_blk (ev_unM al_mX12_emit, 0), w ∈ lw_tbl := by
  show ∀ w ∈ [Jvm.Cond.code al_yX12_emit al_mX12_emit.2.1 al_mX12_emit.2.2.1 al_mX12_emit.2.2.2.1, Jvm.Cond.initialized al_yX12_emit.cls, Jvm.Cond.instanceMethod al_yX12_emit, Jvm.Cond.selects al_yX12_emit.cls al_yX12_emit al_yX12_emit], w ∈ lw_tbl
  exact List.forall_mem_cons.mpr ⟨(al_t14 (List.mem_of_getElem? (i := 141) rfl)), List.forall_mem_cons.mpr ⟨(al_t1 (List.mem_of_getElem? (i := 30) (by decide +kernel))), List.forall_mem_cons.mpr ⟨(al_t14 (List.mem_of_getElem? (i := 140) (by decide +kernel))), List.forall_mem_cons.mpr ⟨(al_s (i := 190) (by decide +kernel)), fun _ h => absurd h List.not_mem_nil⟩⟩⟩⟩
set_option maxRecDepth 100000 in
theorem al_wm_X12_later : ∀ w ∈ ev_blk (ev_unM al_mX12_later, 0), w ∈ lw_tbl := by
  show ∀ w ∈ [Jvm.Cond.code al_yX12_later al_mX12_later.2.1 al_mX12_later.2.2.1 al_mX12_later.2.2.2.1, Jvm.Cond.initialized al_yX12_later.cls, Jvm.Cond.instanceMethod al_yX12_later, Jvm.Cond.selects al_yX12_later.cls al_yX12_later al_yX12_later], w ∈ lw_tbl
  exact List.forall_mem_cons.mpr ⟨(al_t14 (List.mem_of_getElem? (i := 145) rfl)), List.forall_mem_cons.mpr ⟨(al_t1 (List.mem_of_getElem? (i := 30) (by decide +kernel))), List.forall_mem_cons.mpr ⟨(al_t14 (List.mem_of_getElem? (i := 144) (by decide +kernel))), List.forall_mem_cons.mpr ⟨(al_s (i := 191) (by decide +kernel)), fun _ h => absurd h List.not_mem_nil⟩⟩⟩⟩
set_option maxRecDepth 100000 in
theorem al_wm_X12_goOn : ∀ w ∈ ev_blk (ev_unM al_mX12_goOn, 0), w ∈ lw_tbl := by
  show ∀ w ∈ [Jvm.Cond.code al_yX12_goOn al_mX12_goOn.2.1 al_mX12_goOn.2.2.1 al_mX12_goOn.2.2.2.1, Jvm.Cond.initialized al_yX12_goOn.cls, Jvm.Cond.instanceMethod al_yX12_goOn, Jvm.Cond.selects al_yX12_goOn.cls al_yX12_goOn al_yX12_goOn], w ∈ lw_tbl
  exact List.forall_mem_cons.mpr ⟨(al_t14 (List.mem_of_getElem? (i := 149) rfl)), List.forall_mem_cons.mpr ⟨(al_t1 (List.mem_of_getElem? (i := 30) (by decide +kernel))), List.forall_mem_cons.mpr ⟨(al_t14 (List.mem_of_getElem? (i := 148) (by decide +kernel))), List.forall_mem_cons.mpr ⟨(al_s (i := 192) (by decide +kernel)), fun _ h => absurd h List.not_mem_nil⟩⟩⟩⟩
set_option maxRecDepth 100000 in
theorem al_wm_X12_readBlock : ∀ w ∈ ev_blk (ev_unM al_mX12_readBlock, 0), w ∈ lw_tbl := by
  show ∀ w ∈ [Jvm.Cond.code al_yX12_readBlock al_mX12_readBlock.2.1 al_mX12_readBlock.2.2.1 al_mX12_readBlock.2.2.2.1, Jvm.Cond.initialized al_yX12_readBlock.cls, Jvm.Cond.instanceMethod al_yX12_readBlock, Jvm.Cond.selects al_yX12_readBlock.cls al_yX12_readBlock al_yX12_readBlock], w ∈ lw_tbl
  exact List.forall_mem_cons.mpr ⟨(al_t14 (List.mem_of_getElem? (i := 153) rfl)), List.forall_mem_cons.mpr ⟨(al_t1 (List.mem_of_getElem? (i := 30) (by decide +kernel))), List.forall_mem_cons.mpr ⟨(al_t14 (List.mem_of_getElem? (i := 152) (by decide +kernel))), List.forall_mem_cons.mpr ⟨(al_s (i := 193) (by decide +kernel)), fun _ h => absurd h List.not_mem_nil⟩⟩⟩⟩
set_option maxRecDepth 100000 in
theorem al_wm_X12_isWord : ∀ w ∈ ev_blk (ev_unM al_mX12_isWord, 0), w ∈ lw_tbl := by
  show ∀ w ∈ [Jvm.Cond.code al_yX12_isWord al_mX12_isWord.2.1 al_mX12_isWord.2.2.1 al_mX12_isWord.2.2.2.1, Jvm.Cond.initialized al_yX12_isWord.cls, Jvm.Cond.instanceMethod al_yX12_isWord, Jvm.Cond.selects al_yX12_isWord.cls al_yX12_isWord al_yX12_isWord], w ∈ lw_tbl
  exact List.forall_mem_cons.mpr ⟨(al_t14 (List.mem_of_getElem? (i := 157) rfl)), List.forall_mem_cons.mpr ⟨(al_t1 (List.mem_of_getElem? (i := 30) (by decide +kernel))), List.forall_mem_cons.mpr ⟨(al_t14 (List.mem_of_getElem? (i := 156) (by decide +kernel))), List.forall_mem_cons.mpr ⟨(al_s (i := 194) (by decide +kernel)), fun _ h => absurd h List.not_mem_nil⟩⟩⟩⟩
set_option maxRecDepth 100000 in
theorem al_wm_X12_beginsStatement : ∀ w ∈ ev_blk (ev_unM al_mX12_beginsStatement, 0), w ∈ lw_tbl := by
  show ∀ w ∈ [Jvm.Cond.code al_yX12_beginsStatement al_mX12_beginsStatement.2.1 al_mX12_beginsStatement.2.2.1 al_mX12_beginsStatement.2.2.2.1, Jvm.Cond.initialized al_yX12_beginsStatement.cls, Jvm.Cond.instanceMethod al_yX12_beginsStatement, Jvm.Cond.selects al_yX12_beginsStatement.cls al_yX12_beginsStatement al_yX12_beginsStatement], w ∈ lw_tbl
  exact List.forall_mem_cons.mpr ⟨(al_t14 (List.mem_of_getElem? (i := 189) rfl)), List.forall_mem_cons.mpr ⟨(al_t1 (List.mem_of_getElem? (i := 30) (by decide +kernel))), List.forall_mem_cons.mpr ⟨(al_t14 (List.mem_of_getElem? (i := 188) (by decide +kernel))), List.forall_mem_cons.mpr ⟨(al_s (i := 202) (by decide +kernel)), fun _ h => absurd h List.not_mem_nil⟩⟩⟩⟩
set_option maxRecDepth 100000 in
theorem al_wm_X12_isSign : ∀ w ∈ ev_blk (ev_unM al_mX12_isSign, 0), w ∈ lw_tbl := by
  show ∀ w ∈ [Jvm.Cond.code al_yX12_isSign al_mX12_isSign.2.1 al_mX12_isSign.2.2.1 al_mX12_isSign.2.2.2.1, Jvm.Cond.initialized al_yX12_isSign.cls, Jvm.Cond.instanceMethod al_yX12_isSign, Jvm.Cond.selects al_yX12_isSign.cls al_yX12_isSign al_yX12_isSign], w ∈ lw_tbl
  exact List.forall_mem_cons.mpr ⟨(al_t14 (List.mem_of_getElem? (i := 185) rfl)), List.forall_mem_cons.mpr ⟨(al_t1 (List.mem_of_getElem? (i := 30) (by decide +kernel))), List.forall_mem_cons.mpr ⟨(al_t14 (List.mem_of_getElem? (i := 184) (by decide +kernel))), List.forall_mem_cons.mpr ⟨(al_s (i := 201) (by decide +kernel)), fun _ h => absurd h List.not_mem_nil⟩⟩⟩⟩
set_option maxRecDepth 100000 in
theorem al_wm_X12_goOnStatement : ∀ w ∈ ev_blk (ev_unM al_mX12_goOnStatement, 0), w ∈ lw_tbl := by
  show ∀ w ∈ [Jvm.Cond.code al_yX12_goOnStatement al_mX12_goOnStatement.2.1 al_mX12_goOnStatement.2.2.1 al_mX12_goOnStatement.2.2.2.1, Jvm.Cond.initialized al_yX12_goOnStatement.cls, Jvm.Cond.instanceMethod al_yX12_goOnStatement, Jvm.Cond.selects al_yX12_goOnStatement.cls al_yX12_goOnStatement al_yX12_goOnStatement], w ∈ lw_tbl
  exact List.forall_mem_cons.mpr ⟨(al_t15 (List.mem_of_getElem? (i := 133) rfl)), List.forall_mem_cons.mpr ⟨(al_t1 (List.mem_of_getElem? (i := 30) (by decide +kernel))), List.forall_mem_cons.mpr ⟨(al_t15 (List.mem_of_getElem? (i := 132) (by decide +kernel))), List.forall_mem_cons.mpr ⟨(al_s (i := 246) (by decide +kernel)), fun _ h => absurd h List.not_mem_nil⟩⟩⟩⟩
set_option maxRecDepth 100000 in
theorem al_wm_X12_reload : ∀ w ∈ ev_blk (ev_unM al_mX12_reload, 0), w ∈ lw_tbl := by
  show ∀ w ∈ [Jvm.Cond.code al_yX12_reload al_mX12_reload.2.1 al_mX12_reload.2.2.1 al_mX12_reload.2.2.2.1, Jvm.Cond.initialized al_yX12_reload.cls, Jvm.Cond.instanceMethod al_yX12_reload, Jvm.Cond.selects al_yX12_reload.cls al_yX12_reload al_yX12_reload], w ∈ lw_tbl
  exact List.forall_mem_cons.mpr ⟨(al_t15 (List.mem_of_getElem? (i := 209) rfl)), List.forall_mem_cons.mpr ⟨(al_t1 (List.mem_of_getElem? (i := 30) (by decide +kernel))), List.forall_mem_cons.mpr ⟨(al_t15 (List.mem_of_getElem? (i := 208) (by decide +kernel))), List.forall_mem_cons.mpr ⟨(al_s (i := 265) (by decide +kernel)), fun _ h => absurd h List.not_mem_nil⟩⟩⟩⟩
set_option maxRecDepth 100000 in
theorem al_wm_X12_fill : ∀ w ∈ ev_blk (ev_unM al_mX12_fill, 0), w ∈ lw_tbl := by
  show ∀ w ∈ [Jvm.Cond.code al_yX12_fill al_mX12_fill.2.1 al_mX12_fill.2.2.1 al_mX12_fill.2.2.2.1, Jvm.Cond.initialized al_yX12_fill.cls, Jvm.Cond.instanceMethod al_yX12_fill, Jvm.Cond.selects al_yX12_fill.cls al_yX12_fill al_yX12_fill], w ∈ lw_tbl
  exact List.forall_mem_cons.mpr ⟨(al_t15 (List.mem_of_getElem? (i := 218) rfl)), List.forall_mem_cons.mpr ⟨(al_t1 (List.mem_of_getElem? (i := 30) (by decide +kernel))), List.forall_mem_cons.mpr ⟨(al_t15 (List.mem_of_getElem? (i := 217) (by decide +kernel))), List.forall_mem_cons.mpr ⟨(al_s (i := 267) (by decide +kernel)), fun _ h => absurd h List.not_mem_nil⟩⟩⟩⟩
set_option maxRecDepth 100000 in
theorem al_wm_X12_set : ∀ w ∈ ev_blk (ev_unM al_mX12_set, 0), w ∈ lw_tbl := by
  show ∀ w ∈ [Jvm.Cond.code al_yX12_set al_mX12_set.2.1 al_mX12_set.2.2.1 al_mX12_set.2.2.2.1, Jvm.Cond.initialized al_yX12_set.cls, Jvm.Cond.instanceMethod al_yX12_set, Jvm.Cond.selects al_yX12_set.cls al_yX12_set al_yX12_set], w ∈ lw_tbl
  exact List.forall_mem_cons.mpr ⟨(al_t15 (List.mem_of_getElem? (i := 222) rfl)), List.forall_mem_cons.mpr ⟨(al_t1 (List.mem_of_getElem? (i := 30) (by decide +kernel))), List.forall_mem_cons.mpr ⟨(al_t15 (List.mem_of_getElem? (i := 221) (by decide +kernel))), List.forall_mem_cons.mpr ⟨(al_s (i := 268) (by decide +kernel)), fun _ h => absurd h List.not_mem_nil⟩⟩⟩⟩
set_option maxRecDepth 100000 in
theorem al_wm_X12_placeOf : ∀ w ∈ ev_blk (ev_unM al_mX12_placeOf, 0), w ∈ lw_tbl := by
  show ∀ w ∈ [Jvm.Cond.code al_yX12_placeOf al_mX12_placeOf.2.1 al_mX12_placeOf.2.2.1 al_mX12_placeOf.2.2.2.1, Jvm.Cond.initialized al_yX12_placeOf.cls, Jvm.Cond.instanceMethod al_yX12_placeOf, Jvm.Cond.selects al_yX12_placeOf.cls al_yX12_placeOf al_yX12_placeOf], w ∈ lw_tbl
  exact List.forall_mem_cons.mpr ⟨(al_t15 (List.mem_of_getElem? (i := 226) rfl)), List.forall_mem_cons.mpr ⟨(al_t1 (List.mem_of_getElem? (i := 30) (by decide +kernel))), List.forall_mem_cons.mpr ⟨(al_t15 (List.mem_of_getElem? (i := 225) (by decide +kernel))), List.forall_mem_cons.mpr ⟨(al_s (i := 269) (by decide +kernel)), fun _ h => absurd h List.not_mem_nil⟩⟩⟩⟩
set_option maxRecDepth 100000 in
theorem al_wm_X12_keyHash : ∀ w ∈ ev_blk (ev_unM al_mX12_keyHash, 1), w ∈ lw_tbl := by
  show ∀ w ∈ [Jvm.Cond.code al_yX12_keyHash al_mX12_keyHash.2.1 al_mX12_keyHash.2.2.1 al_mX12_keyHash.2.2.2.1, Jvm.Cond.initialized al_yX12_keyHash.cls, Jvm.Cond.static al_yX12_keyHash], w ∈ lw_tbl
  exact List.forall_mem_cons.mpr ⟨(al_t15 (List.mem_of_getElem? (i := 229) rfl)), List.forall_mem_cons.mpr ⟨(al_t1 (List.mem_of_getElem? (i := 30) (by decide +kernel))), List.forall_mem_cons.mpr ⟨(al_t15 (List.mem_of_getElem? (i := 228) (by decide +kernel))), fun _ h => absurd h List.not_mem_nil⟩⟩⟩
set_option maxRecDepth 100000 in
theorem al_wm_X12_object : ∀ w ∈ ev_blk (ev_unM al_mX12_object, 0), w ∈ lw_tbl := by
  show ∀ w ∈ [Jvm.Cond.code al_yX12_object al_mX12_object.2.1 al_mX12_object.2.2.1 al_mX12_object.2.2.2.1, Jvm.Cond.initialized al_yX12_object.cls, Jvm.Cond.instanceMethod al_yX12_object, Jvm.Cond.selects al_yX12_object.cls al_yX12_object al_yX12_object], w ∈ lw_tbl
  exact List.forall_mem_cons.mpr ⟨(al_t15 (List.mem_of_getElem? (i := 236) rfl)), List.forall_mem_cons.mpr ⟨(al_t1 (List.mem_of_getElem? (i := 30) (by decide +kernel))), List.forall_mem_cons.mpr ⟨(al_t15 (List.mem_of_getElem? (i := 235) (by decide +kernel))), List.forall_mem_cons.mpr ⟨(al_s (i := 270) (by decide +kernel)), fun _ h => absurd h List.not_mem_nil⟩⟩⟩⟩
set_option maxRecDepth 100000 in
theorem al_wm_X12_how : ∀ w ∈ ev_blk (ev_unM al_mX12_how, 0), w ∈ lw_tbl := by
  show ∀ w ∈ [Jvm.Cond.code al_yX12_how al_mX12_how.2.1 al_mX12_how.2.2.1 al_mX12_how.2.2.2.1, Jvm.Cond.initialized al_yX12_how.cls, Jvm.Cond.instanceMethod al_yX12_how, Jvm.Cond.selects al_yX12_how.cls al_yX12_how al_yX12_how], w ∈ lw_tbl
  exact List.forall_mem_cons.mpr ⟨(al_t16 (List.mem_of_getElem? (i := 0) rfl)), List.forall_mem_cons.mpr ⟨(al_t1 (List.mem_of_getElem? (i := 30) (by decide +kernel))), List.forall_mem_cons.mpr ⟨(al_t15 (List.mem_of_getElem? (i := 239) (by decide +kernel))), List.forall_mem_cons.mpr ⟨(al_s (i := 271) (by decide +kernel)), fun _ h => absurd h List.not_mem_nil⟩⟩⟩⟩
set_option maxRecDepth 100000 in
theorem al_wm_X12_openFrame : ∀ w ∈ ev_blk (ev_unM al_mX12_openFrame, 0), w ∈ lw_tbl := by
  show ∀ w ∈ [Jvm.Cond.code al_yX12_openFrame al_mX12_openFrame.2.1 al_mX12_openFrame.2.2.1 al_mX12_openFrame.2.2.2.1, Jvm.Cond.initialized al_yX12_openFrame.cls, Jvm.Cond.instanceMethod al_yX12_openFrame, Jvm.Cond.selects al_yX12_openFrame.cls al_yX12_openFrame al_yX12_openFrame], w ∈ lw_tbl
  exact List.forall_mem_cons.mpr ⟨(al_t16 (List.mem_of_getElem? (i := 4) rfl)), List.forall_mem_cons.mpr ⟨(al_t1 (List.mem_of_getElem? (i := 30) (by decide +kernel))), List.forall_mem_cons.mpr ⟨(al_t16 (List.mem_of_getElem? (i := 3) (by decide +kernel))), List.forall_mem_cons.mpr ⟨(al_s (i := 272) (by decide +kernel)), fun _ h => absurd h List.not_mem_nil⟩⟩⟩⟩
set_option maxRecDepth 100000 in
theorem al_wm_X12_forget : ∀ w ∈ ev_blk (ev_unM al_mX12_forget, 0), w ∈ lw_tbl := by
  show ∀ w ∈ [Jvm.Cond.code al_yX12_forget al_mX12_forget.2.1 al_mX12_forget.2.2.1 al_mX12_forget.2.2.2.1, Jvm.Cond.initialized al_yX12_forget.cls, Jvm.Cond.instanceMethod al_yX12_forget, Jvm.Cond.selects al_yX12_forget.cls al_yX12_forget al_yX12_forget], w ∈ lw_tbl
  exact List.forall_mem_cons.mpr ⟨(al_t15 (List.mem_of_getElem? (i := 213) rfl)), List.forall_mem_cons.mpr ⟨(al_t1 (List.mem_of_getElem? (i := 30) (by decide +kernel))), List.forall_mem_cons.mpr ⟨(al_t15 (List.mem_of_getElem? (i := 212) (by decide +kernel))), List.forall_mem_cons.mpr ⟨(al_s (i := 266) (by decide +kernel)), fun _ h => absurd h List.not_mem_nil⟩⟩⟩⟩
set_option maxRecDepth 100000 in
theorem al_wm_X11_init : ∀ w ∈ ev_blk (ev_unM al_mX11_init, 2), w ∈ lw_tbl := by
  show ∀ w ∈ [Jvm.Cond.code al_yX11_init al_mX11_init.2.1 al_mX11_init.2.2.1 al_mX11_init.2.2.2.1, Jvm.Cond.initialized al_yX11_init.cls, Jvm.Cond.instanceMethod al_yX11_init], w ∈ lw_tbl
  exact List.forall_mem_cons.mpr ⟨(al_t1 (List.mem_of_getElem? (i := 39) rfl)), List.forall_mem_cons.mpr ⟨(al_t1 (List.mem_of_getElem? (i := 1) (by decide +kernel))), List.forall_mem_cons.mpr ⟨(al_t1 (List.mem_of_getElem? (i := 38) (by decide +kernel))), fun _ h => absurd h List.not_mem_nil⟩⟩⟩
set_option maxRecDepth 100000 in
theorem al_wm_X11_compile : ∀ w ∈ ev_blk (ev_unM al_mX11_compile, 0), w ∈ lw_tbl := by
  show ∀ w ∈ [Jvm.Cond.code al_yX11_compile al_mX11_compile.2.1 al_mX11_compile.2.2.1 al_mX11_compile.2.2.2.1, Jvm.Cond.initialized al_yX11_compile.cls, Jvm.Cond.instanceMethod al_yX11_compile, Jvm.Cond.selects al_yX11_compile.cls al_yX11_compile al_yX11_compile], w ∈ lw_tbl
  exact List.forall_mem_cons.mpr ⟨(al_t6 (List.mem_of_getElem? (i := 32) rfl)), List.forall_mem_cons.mpr ⟨(al_t1 (List.mem_of_getElem? (i := 1) (by decide +kernel))), List.forall_mem_cons.mpr ⟨(al_t6 (List.mem_of_getElem? (i := 30) (by decide +kernel))), List.forall_mem_cons.mpr ⟨(al_t6 (List.mem_of_getElem? (i := 31) (by decide +kernel))), fun _ h => absurd h List.not_mem_nil⟩⟩⟩⟩
set_option maxRecDepth 100000 in
theorem al_wm_X11_forget : ∀ w ∈ ev_blk (ev_unM al_mX11_forget, 0), w ∈ lw_tbl := by
  show ∀ w ∈ [Jvm.Cond.code al_yX11_forget al_mX11_forget.2.1 al_mX11_forget.2.2.1 al_mX11_forget.2.2.2.1, Jvm.Cond.initialized al_yX11_forget.cls, Jvm.Cond.instanceMethod al_yX11_forget, Jvm.Cond.selects al_yX11_forget.cls al_yX11_forget al_yX11_forget], w ∈ lw_tbl
  exact List.forall_mem_cons.mpr ⟨(al_t6 (List.mem_of_getElem? (i := 28) rfl)), List.forall_mem_cons.mpr ⟨(al_t1 (List.mem_of_getElem? (i := 1) (by decide +kernel))), List.forall_mem_cons.mpr ⟨(al_t6 (List.mem_of_getElem? (i := 27) (by decide +kernel))), List.forall_mem_cons.mpr ⟨(al_s (i := 7) (by decide +kernel)), fun _ h => absurd h List.not_mem_nil⟩⟩⟩⟩
set_option maxRecDepth 100000 in
theorem al_wm_X8_init : ∀ w ∈ ev_blk (ev_unM al_mX8_init, 2), w ∈ lw_tbl := by
  show ∀ w ∈ [Jvm.Cond.code al_yX8_init al_mX8_init.2.1 al_mX8_init.2.2.1 al_mX8_init.2.2.2.1, Jvm.Cond.initialized al_yX8_init.cls, Jvm.Cond.instanceMethod al_yX8_init], w ∈ lw_tbl
  exact List.forall_mem_cons.mpr ⟨(al_t1 (List.mem_of_getElem? (i := 47) rfl)), List.forall_mem_cons.mpr ⟨(al_t1 (List.mem_of_getElem? (i := 2) (by decide +kernel))), List.forall_mem_cons.mpr ⟨(al_t1 (List.mem_of_getElem? (i := 46) (by decide +kernel))), fun _ h => absurd h List.not_mem_nil⟩⟩⟩
set_option maxRecDepth 100000 in
theorem al_wm_X8_keepNames : ∀ w ∈ ev_blk (ev_unM al_mX8_keepNames, 0), w ∈ lw_tbl := by
  show ∀ w ∈ [Jvm.Cond.code al_yX8_keepNames al_mX8_keepNames.2.1 al_mX8_keepNames.2.2.1 al_mX8_keepNames.2.2.2.1, Jvm.Cond.initialized al_yX8_keepNames.cls, Jvm.Cond.instanceMethod al_yX8_keepNames, Jvm.Cond.selects al_yX8_keepNames.cls al_yX8_keepNames al_yX8_keepNames], w ∈ lw_tbl
  exact List.forall_mem_cons.mpr ⟨(al_t1 (List.mem_of_getElem? (i := 54) rfl)), List.forall_mem_cons.mpr ⟨(al_t1 (List.mem_of_getElem? (i := 2) (by decide +kernel))), List.forall_mem_cons.mpr ⟨(al_t1 (List.mem_of_getElem? (i := 53) (by decide +kernel))), List.forall_mem_cons.mpr ⟨(al_s (i := 0) (by decide +kernel)), fun _ h => absurd h List.not_mem_nil⟩⟩⟩⟩
set_option maxRecDepth 100000 in
theorem al_wm_X8_dropText : ∀ w ∈ ev_blk (ev_unM al_mX8_dropText, 0), w ∈ lw_tbl := by
  show ∀ w ∈ [Jvm.Cond.code al_yX8_dropText al_mX8_dropText.2.1 al_mX8_dropText.2.2.1 al_mX8_dropText.2.2.2.1, Jvm.Cond.initialized al_yX8_dropText.cls, Jvm.Cond.instanceMethod al_yX8_dropText, Jvm.Cond.selects al_yX8_dropText.cls al_yX8_dropText al_yX8_dropText], w ∈ lw_tbl
  exact List.forall_mem_cons.mpr ⟨(al_t6 (List.mem_of_getElem? (i := 49) rfl)), List.forall_mem_cons.mpr ⟨(al_t1 (List.mem_of_getElem? (i := 2) (by decide +kernel))), List.forall_mem_cons.mpr ⟨(al_t6 (List.mem_of_getElem? (i := 47) (by decide +kernel))), List.forall_mem_cons.mpr ⟨(al_t6 (List.mem_of_getElem? (i := 48) (by decide +kernel))), fun _ h => absurd h List.not_mem_nil⟩⟩⟩⟩
set_option maxRecDepth 100000 in
theorem al_wm_X8_dropMade : ∀ w ∈ ev_blk (ev_unM al_mX8_dropMade, 0), w ∈ lw_tbl := by
  show ∀ w ∈ [Jvm.Cond.code al_yX8_dropMade al_mX8_dropMade.2.1 al_mX8_dropMade.2.2.1 al_mX8_dropMade.2.2.2.1, Jvm.Cond.initialized al_yX8_dropMade.cls, Jvm.Cond.instanceMethod al_yX8_dropMade, Jvm.Cond.selects al_yX8_dropMade.cls al_yX8_dropMade al_yX8_dropMade], w ∈ lw_tbl
  exact List.forall_mem_cons.mpr ⟨(al_t6 (List.mem_of_getElem? (i := 40) rfl)), List.forall_mem_cons.mpr ⟨(al_t1 (List.mem_of_getElem? (i := 2) (by decide +kernel))), List.forall_mem_cons.mpr ⟨(al_t6 (List.mem_of_getElem? (i := 38) (by decide +kernel))), List.forall_mem_cons.mpr ⟨(al_t6 (List.mem_of_getElem? (i := 39) (by decide +kernel))), fun _ h => absurd h List.not_mem_nil⟩⟩⟩⟩
set_option maxRecDepth 100000 in
theorem al_wm_X8_cutTo : ∀ w ∈ ev_blk (ev_unM al_mX8_cutTo, 0), w ∈ lw_tbl := by
  show ∀ w ∈ [Jvm.Cond.code al_yX8_cutTo al_mX8_cutTo.2.1 al_mX8_cutTo.2.2.1 al_mX8_cutTo.2.2.2.1, Jvm.Cond.initialized al_yX8_cutTo.cls, Jvm.Cond.instanceMethod al_yX8_cutTo, Jvm.Cond.selects al_yX8_cutTo.cls al_yX8_cutTo al_yX8_cutTo], w ∈ lw_tbl
  exact List.forall_mem_cons.mpr ⟨(al_t6 (List.mem_of_getElem? (i := 44) rfl)), List.forall_mem_cons.mpr ⟨(al_t1 (List.mem_of_getElem? (i := 2) (by decide +kernel))), List.forall_mem_cons.mpr ⟨(al_t6 (List.mem_of_getElem? (i := 43) (by decide +kernel))), List.forall_mem_cons.mpr ⟨(al_s (i := 8) (by decide +kernel)), fun _ h => absurd h List.not_mem_nil⟩⟩⟩⟩
set_option maxRecDepth 100000 in
theorem al_wm_X6_init : ∀ w ∈ ev_blk (ev_unM al_mX6_init, 2), w ∈ lw_tbl := by
  show ∀ w ∈ [Jvm.Cond.code al_yX6_init al_mX6_init.2.1 al_mX6_init.2.2.1 al_mX6_init.2.2.2.1, Jvm.Cond.initialized al_yX6_init.cls, Jvm.Cond.instanceMethod al_yX6_init], w ∈ lw_tbl
  exact List.forall_mem_cons.mpr ⟨(al_t1 (List.mem_of_getElem? (i := 181) rfl)), List.forall_mem_cons.mpr ⟨(al_t1 (List.mem_of_getElem? (i := 8) (by decide +kernel))), List.forall_mem_cons.mpr ⟨(al_t1 (List.mem_of_getElem? (i := 180) (by decide +kernel))), fun _ h => absurd h List.not_mem_nil⟩⟩⟩
set_option maxRecDepth 100000 in
theorem al_wm_X6_clear : ∀ w ∈ ev_blk (ev_unM al_mX6_clear, 0), w ∈ lw_tbl := by
  show ∀ w ∈ [Jvm.Cond.code al_yX6_clear al_mX6_clear.2.1 al_mX6_clear.2.2.1 al_mX6_clear.2.2.2.1, Jvm.Cond.initialized al_yX6_clear.cls, Jvm.Cond.instanceMethod al_yX6_clear, Jvm.Cond.selects al_yX6_clear.cls al_yX6_clear al_yX6_clear], w ∈ lw_tbl
  exact List.forall_mem_cons.mpr ⟨(al_t6 (List.mem_of_getElem? (i := 53) rfl)), List.forall_mem_cons.mpr ⟨(al_t1 (List.mem_of_getElem? (i := 8) (by decide +kernel))), List.forall_mem_cons.mpr ⟨(al_t6 (List.mem_of_getElem? (i := 51) (by decide +kernel))), List.forall_mem_cons.mpr ⟨(al_t6 (List.mem_of_getElem? (i := 52) (by decide +kernel))), fun _ h => absurd h List.not_mem_nil⟩⟩⟩⟩
set_option maxRecDepth 100000 in
theorem al_wm_X6_addFunction : ∀ w ∈ ev_blk (ev_unM al_mX6_addFunction, 0), w ∈ lw_tbl := by
  show ∀ w ∈ [Jvm.Cond.code al_yX6_addFunction al_mX6_addFunction.2.1 al_mX6_addFunction.2.2.1 al_mX6_addFunction.2.2.2.1, Jvm.Cond.initialized al_yX6_addFunction.cls, Jvm.Cond.instanceMethod al_yX6_addFunction, Jvm.Cond.selects al_yX6_addFunction.cls al_yX6_addFunction al_yX6_addFunction], w ∈ lw_tbl
  exact List.forall_mem_cons.mpr ⟨(al_t6 (List.mem_of_getElem? (i := 61) rfl)), List.forall_mem_cons.mpr ⟨(al_t1 (List.mem_of_getElem? (i := 8) (by decide +kernel))), List.forall_mem_cons.mpr ⟨(al_t6 (List.mem_of_getElem? (i := 59) (by decide +kernel))), List.forall_mem_cons.mpr ⟨(al_t6 (List.mem_of_getElem? (i := 60) (by decide +kernel))), fun _ h => absurd h List.not_mem_nil⟩⟩⟩⟩
set_option maxRecDepth 100000 in
theorem al_wm_X6_emit : ∀ w ∈ ev_blk (ev_unM al_mX6_emit, 0), w ∈ lw_tbl := by
  show ∀ w ∈ [Jvm.Cond.code al_yX6_emit al_mX6_emit.2.1 al_mX6_emit.2.2.1 al_mX6_emit.2.2.2.1, Jvm.Cond.initialized al_yX6_emit.cls, Jvm.Cond.instanceMethod al_yX6_emit, Jvm.Cond.selects al_yX6_emit.cls al_yX6_emit al_yX6_emit], w ∈ lw_tbl
  exact List.forall_mem_cons.mpr ⟨(al_t6 (List.mem_of_getElem? (i := 151) rfl)), List.forall_mem_cons.mpr ⟨(al_t1 (List.mem_of_getElem? (i := 8) (by decide +kernel))), List.forall_mem_cons.mpr ⟨(al_t6 (List.mem_of_getElem? (i := 149) (by decide +kernel))), List.forall_mem_cons.mpr ⟨(al_t6 (List.mem_of_getElem? (i := 150) (by decide +kernel))), fun _ h => absurd h List.not_mem_nil⟩⟩⟩⟩
set_option maxRecDepth 100000 in
theorem al_wm_X9_init : ∀ w ∈ ev_blk (ev_unM al_mX9_init, 2), w ∈ lw_tbl := by
  show ∀ w ∈ [Jvm.Cond.code al_yX9_init al_mX9_init.2.1 al_mX9_init.2.2.1 al_mX9_init.2.2.2.1, Jvm.Cond.initialized al_yX9_init.cls, Jvm.Cond.instanceMethod al_yX9_init], w ∈ lw_tbl
  exact List.forall_mem_cons.mpr ⟨(al_t2 (List.mem_of_getElem? (i := 18) rfl)), List.forall_mem_cons.mpr ⟨(al_t1 (List.mem_of_getElem? (i := 9) (by decide +kernel))), List.forall_mem_cons.mpr ⟨(al_t2 (List.mem_of_getElem? (i := 17) (by decide +kernel))), fun _ h => absurd h List.not_mem_nil⟩⟩⟩
set_option maxRecDepth 100000 in
theorem al_wm_X9_clear : ∀ w ∈ ev_blk (ev_unM al_mX9_clear, 0), w ∈ lw_tbl := by
  show ∀ w ∈ [Jvm.Cond.code al_yX9_clear al_mX9_clear.2.1 al_mX9_clear.2.2.1 al_mX9_clear.2.2.2.1, Jvm.Cond.initialized al_yX9_clear.cls, Jvm.Cond.instanceMethod al_yX9_clear, Jvm.Cond.selects al_yX9_clear.cls al_yX9_clear al_yX9_clear], w ∈ lw_tbl
  exact List.forall_mem_cons.mpr ⟨(al_t7 (List.mem_of_getElem? (i := 191) rfl)), List.forall_mem_cons.mpr ⟨(al_t1 (List.mem_of_getElem? (i := 9) (by decide +kernel))), List.forall_mem_cons.mpr ⟨(al_t7 (List.mem_of_getElem? (i := 189) (by decide +kernel))), List.forall_mem_cons.mpr ⟨(al_t7 (List.mem_of_getElem? (i := 190) (by decide +kernel))), fun _ h => absurd h List.not_mem_nil⟩⟩⟩⟩
set_option maxRecDepth 100000 in
theorem al_wm_X9_open : ∀ w ∈ ev_blk (ev_unM al_mX9_open, 0), w ∈ lw_tbl := by
  show ∀ w ∈ [Jvm.Cond.code al_yX9_open al_mX9_open.2.1 al_mX9_open.2.2.1 al_mX9_open.2.2.2.1, Jvm.Cond.initialized al_yX9_open.cls, Jvm.Cond.instanceMethod al_yX9_open, Jvm.Cond.selects al_yX9_open.cls al_yX9_open al_yX9_open], w ∈ lw_tbl
  exact List.forall_mem_cons.mpr ⟨(al_t7 (List.mem_of_getElem? (i := 198) rfl)), List.forall_mem_cons.mpr ⟨(al_t1 (List.mem_of_getElem? (i := 9) (by decide +kernel))), List.forall_mem_cons.mpr ⟨(al_t7 (List.mem_of_getElem? (i := 196) (by decide +kernel))), List.forall_mem_cons.mpr ⟨(al_t7 (List.mem_of_getElem? (i := 197) (by decide +kernel))), fun _ h => absurd h List.not_mem_nil⟩⟩⟩⟩
set_option maxRecDepth 100000 in
theorem al_wm_X9_find : ∀ w ∈ ev_blk (ev_unM al_mX9_find, 0), w ∈ lw_tbl := by
  show ∀ w ∈ [Jvm.Cond.code al_yX9_find al_mX9_find.2.1 al_mX9_find.2.2.1 al_mX9_find.2.2.2.1, Jvm.Cond.initialized al_yX9_find.cls, Jvm.Cond.instanceMethod al_yX9_find, Jvm.Cond.selects al_yX9_find.cls al_yX9_find al_yX9_find], w ∈ lw_tbl
  exact List.forall_mem_cons.mpr ⟨(al_t7 (List.mem_of_getElem? (i := 226) rfl)), List.forall_mem_cons.mpr ⟨(al_t1 (List.mem_of_getElem? (i := 9) (by decide +kernel))), List.forall_mem_cons.mpr ⟨(al_t7 (List.mem_of_getElem? (i := 224) (by decide +kernel))), List.forall_mem_cons.mpr ⟨(al_t7 (List.mem_of_getElem? (i := 225) (by decide +kernel))), fun _ h => absurd h List.not_mem_nil⟩⟩⟩⟩
set_option maxRecDepth 100000 in
theorem al_wm_X9_put : ∀ w ∈ ev_blk (ev_unM al_mX9_put, 0), w ∈ lw_tbl := by
  show ∀ w ∈ [Jvm.Cond.code al_yX9_put al_mX9_put.2.1 al_mX9_put.2.2.1 al_mX9_put.2.2.2.1, Jvm.Cond.initialized al_yX9_put.cls, Jvm.Cond.instanceMethod al_yX9_put, Jvm.Cond.selects al_yX9_put.cls al_yX9_put al_yX9_put], w ∈ lw_tbl
  exact List.forall_mem_cons.mpr ⟨(al_t7 (List.mem_of_getElem? (i := 222) rfl)), List.forall_mem_cons.mpr ⟨(al_t1 (List.mem_of_getElem? (i := 9) (by decide +kernel))), List.forall_mem_cons.mpr ⟨(al_t7 (List.mem_of_getElem? (i := 220) (by decide +kernel))), List.forall_mem_cons.mpr ⟨(al_t7 (List.mem_of_getElem? (i := 221) (by decide +kernel))), fun _ h => absurd h List.not_mem_nil⟩⟩⟩⟩
set_option maxRecDepth 100000 in
theorem al_wm_X9_add : ∀ w ∈ ev_blk (ev_unM al_mX9_add, 0), w ∈ lw_tbl := by
  show ∀ w ∈ [Jvm.Cond.code al_yX9_add al_mX9_add.2.1 al_mX9_add.2.2.1 al_mX9_add.2.2.2.1, Jvm.Cond.initialized al_yX9_add.cls, Jvm.Cond.instanceMethod al_yX9_add, Jvm.Cond.selects al_yX9_add.cls al_yX9_add al_yX9_add], w ∈ lw_tbl
  exact List.forall_mem_cons.mpr ⟨(al_t7 (List.mem_of_getElem? (i := 230) rfl)), List.forall_mem_cons.mpr ⟨(al_t1 (List.mem_of_getElem? (i := 9) (by decide +kernel))), List.forall_mem_cons.mpr ⟨(al_t7 (List.mem_of_getElem? (i := 229) (by decide +kernel))), List.forall_mem_cons.mpr ⟨(al_s (i := 65) (by decide +kernel)), fun _ h => absurd h List.not_mem_nil⟩⟩⟩⟩
set_option maxRecDepth 100000 in
theorem al_wm_X3_init : ∀ w ∈ ev_blk (ev_unM al_mX3_init, 2), w ∈ lw_tbl := by
  show ∀ w ∈ [Jvm.Cond.code al_yX3_init al_mX3_init.2.1 al_mX3_init.2.2.1 al_mX3_init.2.2.2.1, Jvm.Cond.initialized al_yX3_init.cls, Jvm.Cond.instanceMethod al_yX3_init], w ∈ lw_tbl
  exact List.forall_mem_cons.mpr ⟨(al_t2 (List.mem_of_getElem? (i := 97) rfl)), List.forall_mem_cons.mpr ⟨(al_t1 (List.mem_of_getElem? (i := 10) (by decide +kernel))), List.forall_mem_cons.mpr ⟨(al_t2 (List.mem_of_getElem? (i := 96) (by decide +kernel))), fun _ h => absurd h List.not_mem_nil⟩⟩⟩
set_option maxRecDepth 100000 in
theorem al_wm_X3_clear : ∀ w ∈ ev_blk (ev_unM al_mX3_clear, 0), w ∈ lw_tbl := by
  show ∀ w ∈ [Jvm.Cond.code al_yX3_clear al_mX3_clear.2.1 al_mX3_clear.2.2.1 al_mX3_clear.2.2.2.1, Jvm.Cond.initialized al_yX3_clear.cls, Jvm.Cond.instanceMethod al_yX3_clear, Jvm.Cond.selects al_yX3_clear.cls al_yX3_clear al_yX3_clear], w ∈ lw_tbl
  exact List.forall_mem_cons.mpr ⟨(al_t7 (List.mem_of_getElem? (i := 183) rfl)), List.forall_mem_cons.mpr ⟨(al_t1 (List.mem_of_getElem? (i := 10) (by decide +kernel))), List.forall_mem_cons.mpr ⟨(al_t7 (List.mem_of_getElem? (i := 181) (by decide +kernel))), List.forall_mem_cons.mpr ⟨(al_t7 (List.mem_of_getElem? (i := 182) (by decide +kernel))), fun _ h => absurd h List.not_mem_nil⟩⟩⟩⟩
set_option maxRecDepth 100000 in
theorem al_wm_X3_make : ∀ w ∈ ev_blk (ev_unM al_mX3_make, 0), w ∈ lw_tbl := by
  show ∀ w ∈ [Jvm.Cond.code al_yX3_make al_mX3_make.2.1 al_mX3_make.2.2.1 al_mX3_make.2.2.2.1, Jvm.Cond.initialized al_yX3_make.cls, Jvm.Cond.instanceMethod al_yX3_make, Jvm.Cond.selects al_yX3_make.cls al_yX3_make al_yX3_make], w ∈ lw_tbl
  exact List.forall_mem_cons.mpr ⟨(al_t7 (List.mem_of_getElem? (i := 217) rfl)), List.forall_mem_cons.mpr ⟨(al_t1 (List.mem_of_getElem? (i := 10) (by decide +kernel))), List.forall_mem_cons.mpr ⟨(al_t7 (List.mem_of_getElem? (i := 215) (by decide +kernel))), List.forall_mem_cons.mpr ⟨(al_t7 (List.mem_of_getElem? (i := 216) (by decide +kernel))), fun _ h => absurd h List.not_mem_nil⟩⟩⟩⟩
set_option maxRecDepth 100000 in
theorem al_wm_X5_init : ∀ w ∈ ev_blk (ev_unM al_mX5_init, 2), w ∈ lw_tbl := by
  show ∀ w ∈ [Jvm.Cond.code al_yX5_init al_mX5_init.2.1 al_mX5_init.2.2.1 al_mX5_init.2.2.2.1, Jvm.Cond.initialized al_yX5_init.cls, Jvm.Cond.instanceMethod al_yX5_init], w ∈ lw_tbl
  exact List.forall_mem_cons.mpr ⟨(al_t2 (List.mem_of_getElem? (i := 104) rfl)), List.forall_mem_cons.mpr ⟨(al_t1 (List.mem_of_getElem? (i := 11) (by decide +kernel))), List.forall_mem_cons.mpr ⟨(al_t2 (List.mem_of_getElem? (i := 103) (by decide +kernel))), fun _ h => absurd h List.not_mem_nil⟩⟩⟩
set_option maxRecDepth 100000 in
theorem al_wm_X5_open : ∀ w ∈ ev_blk (ev_unM al_mX5_open, 0), w ∈ lw_tbl := by
  show ∀ w ∈ [Jvm.Cond.code al_yX5_open al_mX5_open.2.1 al_mX5_open.2.2.1 al_mX5_open.2.2.2.1, Jvm.Cond.initialized al_yX5_open.cls, Jvm.Cond.instanceMethod al_yX5_open, Jvm.Cond.selects al_yX5_open.cls al_yX5_open al_yX5_open], w ∈ lw_tbl
  exact List.forall_mem_cons.mpr ⟨(al_t7 (List.mem_of_getElem? (i := 187) rfl)), List.forall_mem_cons.mpr ⟨(al_t1 (List.mem_of_getElem? (i := 11) (by decide +kernel))), List.forall_mem_cons.mpr ⟨(al_t7 (List.mem_of_getElem? (i := 185) (by decide +kernel))), List.forall_mem_cons.mpr ⟨(al_t7 (List.mem_of_getElem? (i := 186) (by decide +kernel))), fun _ h => absurd h List.not_mem_nil⟩⟩⟩⟩
set_option maxRecDepth 100000 in
theorem al_wm_X5_enter : ∀ w ∈ ev_blk (ev_unM al_mX5_enter, 0), w ∈ lw_tbl := by
  show ∀ w ∈ [Jvm.Cond.code al_yX5_enter al_mX5_enter.2.1 al_mX5_enter.2.2.1 al_mX5_enter.2.2.2.1, Jvm.Cond.initialized al_yX5_enter.cls, Jvm.Cond.instanceMethod al_yX5_enter, Jvm.Cond.selects al_yX5_enter.cls al_yX5_enter al_yX5_enter], w ∈ lw_tbl
  exact List.forall_mem_cons.mpr ⟨(al_t8 (List.mem_of_getElem? (i := 2) rfl)), List.forall_mem_cons.mpr ⟨(al_t1 (List.mem_of_getElem? (i := 11) (by decide +kernel))), List.forall_mem_cons.mpr ⟨(al_t8 (List.mem_of_getElem? (i := 0) (by decide +kernel))), List.forall_mem_cons.mpr ⟨(al_t8 (List.mem_of_getElem? (i := 1) (by decide +kernel))), fun _ h => absurd h List.not_mem_nil⟩⟩⟩⟩
set_option maxRecDepth 100000 in
theorem al_wm_X10_init : ∀ w ∈ ev_blk (ev_unM al_mX10_init, 2), w ∈ lw_tbl := by
  show ∀ w ∈ [Jvm.Cond.code al_yX10_init al_mX10_init.2.1 al_mX10_init.2.2.1 al_mX10_init.2.2.2.1, Jvm.Cond.initialized al_yX10_init.cls, Jvm.Cond.instanceMethod al_yX10_init], w ∈ lw_tbl
  exact List.forall_mem_cons.mpr ⟨(al_t3 (List.mem_of_getElem? (i := 7) rfl)), List.forall_mem_cons.mpr ⟨(al_t1 (List.mem_of_getElem? (i := 13) (by decide +kernel))), List.forall_mem_cons.mpr ⟨(al_t3 (List.mem_of_getElem? (i := 6) (by decide +kernel))), fun _ h => absurd h List.not_mem_nil⟩⟩⟩
set_option maxRecDepth 100000 in
theorem al_wm_X10_open : ∀ w ∈ ev_blk (ev_unM al_mX10_open, 0), w ∈ lw_tbl := by
  show ∀ w ∈ [Jvm.Cond.code al_yX10_open al_mX10_open.2.1 al_mX10_open.2.2.1 al_mX10_open.2.2.2.1, Jvm.Cond.initialized al_yX10_open.cls, Jvm.Cond.instanceMethod al_yX10_open, Jvm.Cond.selects al_yX10_open.cls al_yX10_open al_yX10_open], w ∈ lw_tbl
  exact List.forall_mem_cons.mpr ⟨(al_t6 (List.mem_of_getElem? (i := 69) rfl)), List.forall_mem_cons.mpr ⟨(al_t1 (List.mem_of_getElem? (i := 13) (by decide +kernel))), List.forall_mem_cons.mpr ⟨(al_t6 (List.mem_of_getElem? (i := 67) (by decide +kernel))), List.forall_mem_cons.mpr ⟨(al_t6 (List.mem_of_getElem? (i := 68) (by decide +kernel))), fun _ h => absurd h List.not_mem_nil⟩⟩⟩⟩
set_option maxRecDepth 100000 in
theorem al_wm_X10_begin : ∀ w ∈ ev_blk (ev_unM al_mX10_begin, 0), w ∈ lw_tbl := by
  show ∀ w ∈ [Jvm.Cond.code al_yX10_begin al_mX10_begin.2.1 al_mX10_begin.2.2.1 al_mX10_begin.2.2.2.1, Jvm.Cond.initialized al_yX10_begin.cls, Jvm.Cond.instanceMethod al_yX10_begin, Jvm.Cond.selects al_yX10_begin.cls al_yX10_begin al_yX10_begin], w ∈ lw_tbl
  exact List.forall_mem_cons.mpr ⟨(al_t6 (List.mem_of_getElem? (i := 85) rfl)), List.forall_mem_cons.mpr ⟨(al_t1 (List.mem_of_getElem? (i := 13) (by decide +kernel))), List.forall_mem_cons.mpr ⟨(al_t6 (List.mem_of_getElem? (i := 83) (by decide +kernel))), List.forall_mem_cons.mpr ⟨(al_t6 (List.mem_of_getElem? (i := 84) (by decide +kernel))), fun _ h => absurd h List.not_mem_nil⟩⟩⟩⟩
set_option maxRecDepth 100000 in
theorem al_wm_X10_behindBlanks : ∀ w ∈ ev_blk (ev_unM al_mX10_behindBlanks, 0), w ∈ lw_tbl := by
  show ∀ w ∈ [Jvm.Cond.code al_yX10_behindBlanks al_mX10_behindBlanks.2.1 al_mX10_behindBlanks.2.2.1 al_mX10_behindBlanks.2.2.2.1, Jvm.Cond.initialized al_yX10_behindBlanks.cls, Jvm.Cond.instanceMethod al_yX10_behindBlanks, Jvm.Cond.selects al_yX10_behindBlanks.cls al_yX10_behindBlanks al_yX10_behindBlanks], w ∈ lw_tbl
  exact List.forall_mem_cons.mpr ⟨(al_t6 (List.mem_of_getElem? (i := 89) rfl)), List.forall_mem_cons.mpr ⟨(al_t1 (List.mem_of_getElem? (i := 13) (by decide +kernel))), List.forall_mem_cons.mpr ⟨(al_t6 (List.mem_of_getElem? (i := 88) (by decide +kernel))), List.forall_mem_cons.mpr ⟨(al_s (i := 11) (by decide +kernel)), fun _ h => absurd h List.not_mem_nil⟩⟩⟩⟩
set_option maxRecDepth 100000 in
theorem al_wm_X4_init : ∀ w ∈ ev_blk (ev_unM al_mX4_init, 2), w ∈ lw_tbl := by
  show ∀ w ∈ [Jvm.Cond.code al_yX4_init al_mX4_init.2.1 al_mX4_init.2.2.1 al_mX4_init.2.2.2.1, Jvm.Cond.initialized al_yX4_init.cls, Jvm.Cond.instanceMethod al_yX4_init], w ∈ lw_tbl
  exact List.forall_mem_cons.mpr ⟨(al_t3 (List.mem_of_getElem? (i := 44) rfl)), List.forall_mem_cons.mpr ⟨(al_t1 (List.mem_of_getElem? (i := 12) (by decide +kernel))), List.forall_mem_cons.mpr ⟨(al_t3 (List.mem_of_getElem? (i := 43) (by decide +kernel))), fun _ h => absurd h List.not_mem_nil⟩⟩⟩
set_option maxRecDepth 100000 in
theorem al_wm_X4_judge : ∀ w ∈ ev_blk (ev_unM al_mX4_judge, 0), w ∈ lw_tbl := by
  show ∀ w ∈ [Jvm.Cond.code al_yX4_judge al_mX4_judge.2.1 al_mX4_judge.2.2.1 al_mX4_judge.2.2.2.1, Jvm.Cond.initialized al_yX4_judge.cls, Jvm.Cond.instanceMethod al_yX4_judge, Jvm.Cond.selects al_yX4_judge.cls al_yX4_judge al_yX4_judge], w ∈ lw_tbl
  exact List.forall_mem_cons.mpr ⟨(al_t6 (List.mem_of_getElem? (i := 36) rfl)), List.forall_mem_cons.mpr ⟨(al_t1 (List.mem_of_getElem? (i := 12) (by decide +kernel))), List.forall_mem_cons.mpr ⟨(al_t6 (List.mem_of_getElem? (i := 34) (by decide +kernel))), List.forall_mem_cons.mpr ⟨(al_t6 (List.mem_of_getElem? (i := 35) (by decide +kernel))), fun _ h => absurd h List.not_mem_nil⟩⟩⟩⟩
set_option maxRecDepth 100000 in
theorem al_wm_X4_next : ∀ w ∈ ev_blk (ev_unM al_mX4_next, 0), w ∈ lw_tbl := by
  show ∀ w ∈ [Jvm.Cond.code al_yX4_next al_mX4_next.2.1 al_mX4_next.2.2.1 al_mX4_next.2.2.2.1, Jvm.Cond.initialized al_yX4_next.cls, Jvm.Cond.instanceMethod al_yX4_next, Jvm.Cond.selects al_yX4_next.cls al_yX4_next al_yX4_next], w ∈ lw_tbl
  exact List.forall_mem_cons.mpr ⟨(al_t6 (List.mem_of_getElem? (i := 73) rfl)), List.forall_mem_cons.mpr ⟨(al_t1 (List.mem_of_getElem? (i := 12) (by decide +kernel))), List.forall_mem_cons.mpr ⟨(al_t6 (List.mem_of_getElem? (i := 72) (by decide +kernel))), List.forall_mem_cons.mpr ⟨(al_s (i := 9) (by decide +kernel)), fun _ h => absurd h List.not_mem_nil⟩⟩⟩⟩
set_option maxRecDepth 100000 in
theorem al_wm_X4_emit : ∀ w ∈ ev_blk (ev_unM al_mX4_emit, 0), w ∈ lw_tbl := by
  show ∀ w ∈ [Jvm.Cond.code al_yX4_emit al_mX4_emit.2.1 al_mX4_emit.2.2.1 al_mX4_emit.2.2.2.1, Jvm.Cond.initialized al_yX4_emit.cls, Jvm.Cond.instanceMethod al_yX4_emit, Jvm.Cond.selects al_yX4_emit.cls al_yX4_emit al_yX4_emit], w ∈ lw_tbl
  exact List.forall_mem_cons.mpr ⟨(al_t6 (List.mem_of_getElem? (i := 147) rfl)), List.forall_mem_cons.mpr ⟨(al_t1 (List.mem_of_getElem? (i := 12) (by decide +kernel))), List.forall_mem_cons.mpr ⟨(al_t6 (List.mem_of_getElem? (i := 146) (by decide +kernel))), List.forall_mem_cons.mpr ⟨(al_s (i := 14) (by decide +kernel)), fun _ h => absurd h List.not_mem_nil⟩⟩⟩⟩
set_option maxRecDepth 100000 in
theorem al_wm_X4_startsStatement : ∀ w ∈ ev_blk (ev_unM al_mX4_startsStatement, 0), w ∈ lw_tbl := by
  show ∀ w ∈ [Jvm.Cond.code al_yX4_startsStatement al_mX4_startsStatement.2.1 al_mX4_startsStatement.2.2.1 al_mX4_startsStatement.2.2.2.1, Jvm.Cond.initialized al_yX4_startsStatement.cls, Jvm.Cond.instanceMethod al_yX4_startsStatement, Jvm.Cond.selects al_yX4_startsStatement.cls al_yX4_startsStatement al_yX4_startsStatement], w ∈ lw_tbl
  exact List.forall_mem_cons.mpr ⟨(al_t6 (List.mem_of_getElem? (i := 159) rfl)), List.forall_mem_cons.mpr ⟨(al_t1 (List.mem_of_getElem? (i := 12) (by decide +kernel))), List.forall_mem_cons.mpr ⟨(al_t6 (List.mem_of_getElem? (i := 158) (by decide +kernel))), List.forall_mem_cons.mpr ⟨(al_s (i := 16) (by decide +kernel)), fun _ h => absurd h List.not_mem_nil⟩⟩⟩⟩
set_option maxRecDepth 100000 in
theorem al_wm_X4_block : ∀ w ∈ ev_blk (ev_unM al_mX4_block, 0), w ∈ lw_tbl := by
  show ∀ w ∈ [Jvm.Cond.code al_yX4_block al_mX4_block.2.1 al_mX4_block.2.2.1 al_mX4_block.2.2.2.1, Jvm.Cond.initialized al_yX4_block.cls, Jvm.Cond.instanceMethod al_yX4_block, Jvm.Cond.selects al_yX4_block.cls al_yX4_block al_yX4_block], w ∈ lw_tbl
  exact List.forall_mem_cons.mpr ⟨(al_t6 (List.mem_of_getElem? (i := 155) rfl)), List.forall_mem_cons.mpr ⟨(al_t1 (List.mem_of_getElem? (i := 12) (by decide +kernel))), List.forall_mem_cons.mpr ⟨(al_t6 (List.mem_of_getElem? (i := 154) (by decide +kernel))), List.forall_mem_cons.mpr ⟨(al_s (i := 15) (by decide +kernel)), fun _ h => absurd h List.not_mem_nil⟩⟩⟩⟩
set_option maxRecDepth 100000 in
theorem al_wm_X7_init : ∀ w ∈ ev_blk (ev_unM al_mX7_init, 2), w ∈ lw_tbl := by
  show ∀ w ∈ [Jvm.Cond.code al_yX7_init al_mX7_init.2.1 al_mX7_init.2.2.1 al_mX7_init.2.2.2.1, Jvm.Cond.initialized al_yX7_init.cls, Jvm.Cond.instanceMethod al_yX7_init], w ∈ lw_tbl
  exact List.forall_mem_cons.mpr ⟨(al_t3 (List.mem_of_getElem? (i := 50) rfl)), List.forall_mem_cons.mpr ⟨(al_t1 (List.mem_of_getElem? (i := 14) (by decide +kernel))), List.forall_mem_cons.mpr ⟨(al_t3 (List.mem_of_getElem? (i := 49) (by decide +kernel))), fun _ h => absurd h List.not_mem_nil⟩⟩⟩
set_option maxRecDepth 100000 in
theorem al_wm_X7_clear : ∀ w ∈ ev_blk (ev_unM al_mX7_clear, 0), w ∈ lw_tbl := by
  show ∀ w ∈ [Jvm.Cond.code al_yX7_clear al_mX7_clear.2.1 al_mX7_clear.2.2.1 al_mX7_clear.2.2.2.1, Jvm.Cond.initialized al_yX7_clear.cls, Jvm.Cond.instanceMethod al_yX7_clear, Jvm.Cond.selects al_yX7_clear.cls al_yX7_clear al_yX7_clear], w ∈ lw_tbl
  exact List.forall_mem_cons.mpr ⟨(al_t6 (List.mem_of_getElem? (i := 57) rfl)), List.forall_mem_cons.mpr ⟨(al_t1 (List.mem_of_getElem? (i := 14) (by decide +kernel))), List.forall_mem_cons.mpr ⟨(al_t6 (List.mem_of_getElem? (i := 55) (by decide +kernel))), List.forall_mem_cons.mpr ⟨(al_t6 (List.mem_of_getElem? (i := 56) (by decide +kernel))), fun _ h => absurd h List.not_mem_nil⟩⟩⟩⟩
set_option maxRecDepth 100000 in
theorem al_wm_X7_enter : ∀ w ∈ ev_blk (ev_unM al_mX7_enter, 0), w ∈ lw_tbl := by
  show ∀ w ∈ [Jvm.Cond.code al_yX7_enter al_mX7_enter.2.1 al_mX7_enter.2.2.1 al_mX7_enter.2.2.2.1, Jvm.Cond.initialized al_yX7_enter.cls, Jvm.Cond.instanceMethod al_yX7_enter, Jvm.Cond.selects al_yX7_enter.cls al_yX7_enter al_yX7_enter], w ∈ lw_tbl
  exact List.forall_mem_cons.mpr ⟨(al_t6 (List.mem_of_getElem? (i := 65) rfl)), List.forall_mem_cons.mpr ⟨(al_t1 (List.mem_of_getElem? (i := 14) (by decide +kernel))), List.forall_mem_cons.mpr ⟨(al_t6 (List.mem_of_getElem? (i := 63) (by decide +kernel))), List.forall_mem_cons.mpr ⟨(al_t6 (List.mem_of_getElem? (i := 64) (by decide +kernel))), fun _ h => absurd h List.not_mem_nil⟩⟩⟩⟩
set_option maxRecDepth 100000 in
theorem al_wm_X7_height : ∀ w ∈ ev_blk (ev_unM al_mX7_height, 0), w ∈ lw_tbl := by
  show ∀ w ∈ [Jvm.Cond.code al_yX7_height al_mX7_height.2.1 al_mX7_height.2.2.1 al_mX7_height.2.2.2.1, Jvm.Cond.initialized al_yX7_height.cls, Jvm.Cond.instanceMethod al_yX7_height, Jvm.Cond.selects al_yX7_height.cls al_yX7_height al_yX7_height], w ∈ lw_tbl
  exact List.forall_mem_cons.mpr ⟨(al_t6 (List.mem_of_getElem? (i := 175) rfl)), List.forall_mem_cons.mpr ⟨(al_t1 (List.mem_of_getElem? (i := 14) (by decide +kernel))), List.forall_mem_cons.mpr ⟨(al_t6 (List.mem_of_getElem? (i := 173) (by decide +kernel))), List.forall_mem_cons.mpr ⟨(al_t6 (List.mem_of_getElem? (i := 174) (by decide +kernel))), fun _ h => absurd h List.not_mem_nil⟩⟩⟩⟩
set_option maxRecDepth 100000 in
theorem al_wm_X0_init : ∀ w ∈ ev_blk (ev_unM al_mX0_init, 2), w ∈ lw_tbl := by
  show ∀ w ∈ [Jvm.Cond.code al_yX0_init al_mX0_init.2.1 al_mX0_init.2.2.1 al_mX0_init.2.2.2.1, Jvm.Cond.initialized al_yX0_init.cls, Jvm.Cond.instanceMethod al_yX0_init], w ∈ lw_tbl
  exact List.forall_mem_cons.mpr ⟨(al_t3 (List.mem_of_getElem? (i := 148) rfl)), List.forall_mem_cons.mpr ⟨(al_t1 (List.mem_of_getElem? (i := 15) (by decide +kernel))), List.forall_mem_cons.mpr ⟨(al_t3 (List.mem_of_getElem? (i := 147) (by decide +kernel))), fun _ h => absurd h List.not_mem_nil⟩⟩⟩
set_option maxRecDepth 100000 in
theorem al_wm_X0_clear : ∀ w ∈ ev_blk (ev_unM al_mX0_clear, 0), w ∈ lw_tbl := by
  show ∀ w ∈ [Jvm.Cond.code al_yX0_clear al_mX0_clear.2.1 al_mX0_clear.2.2.1 al_mX0_clear.2.2.2.1, Jvm.Cond.initialized al_yX0_clear.cls, Jvm.Cond.instanceMethod al_yX0_clear, Jvm.Cond.selects al_yX0_clear.cls al_yX0_clear al_yX0_clear], w ∈ lw_tbl
  exact List.forall_mem_cons.mpr ⟨(al_t7 (List.mem_of_getElem? (i := 202) rfl)), List.forall_mem_cons.mpr ⟨(al_t1 (List.mem_of_getElem? (i := 15) (by decide +kernel))), List.forall_mem_cons.mpr ⟨(al_t7 (List.mem_of_getElem? (i := 200) (by decide +kernel))), List.forall_mem_cons.mpr ⟨(al_t7 (List.mem_of_getElem? (i := 201) (by decide +kernel))), fun _ h => absurd h List.not_mem_nil⟩⟩⟩⟩
set_option maxRecDepth 100000 in
theorem al_wm_X2_init : ∀ w ∈ ev_blk (ev_unM al_mX2_init, 2), w ∈ lw_tbl := by
  show ∀ w ∈ [Jvm.Cond.code al_yX2_init al_mX2_init.2.1 al_mX2_init.2.2.1 al_mX2_init.2.2.2.1, Jvm.Cond.initialized al_yX2_init.cls, Jvm.Cond.instanceMethod al_yX2_init], w ∈ lw_tbl
  exact List.forall_mem_cons.mpr ⟨(al_t3 (List.mem_of_getElem? (i := 203) rfl)), List.forall_mem_cons.mpr ⟨(al_t1 (List.mem_of_getElem? (i := 16) (by decide +kernel))), List.forall_mem_cons.mpr ⟨(al_t3 (List.mem_of_getElem? (i := 202) (by decide +kernel))), fun _ h => absurd h List.not_mem_nil⟩⟩⟩
set_option maxRecDepth 100000 in
theorem al_wm_X2_reset : ∀ w ∈ ev_blk (ev_unM al_mX2_reset, 0), w ∈ lw_tbl := by
  show ∀ w ∈ [Jvm.Cond.code al_yX2_reset al_mX2_reset.2.1 al_mX2_reset.2.2.1 al_mX2_reset.2.2.2.1, Jvm.Cond.initialized al_yX2_reset.cls, Jvm.Cond.instanceMethod al_yX2_reset, Jvm.Cond.selects al_yX2_reset.cls al_yX2_reset al_yX2_reset], w ∈ lw_tbl
  exact List.forall_mem_cons.mpr ⟨(al_t7 (List.mem_of_getElem? (i := 178) rfl)), List.forall_mem_cons.mpr ⟨(al_t1 (List.mem_of_getElem? (i := 16) (by decide +kernel))), List.forall_mem_cons.mpr ⟨(al_t7 (List.mem_of_getElem? (i := 176) (by decide +kernel))), List.forall_mem_cons.mpr ⟨(al_t7 (List.mem_of_getElem? (i := 177) (by decide +kernel))), fun _ h => absurd h List.not_mem_nil⟩⟩⟩⟩
set_option maxRecDepth 100000 in
theorem al_wm_X1_init : ∀ w ∈ ev_blk (ev_unM al_mX1_init, 2), w ∈ lw_tbl := by
  show ∀ w ∈ [Jvm.Cond.code al_yX1_init al_mX1_init.2.1 al_mX1_init.2.2.1 al_mX1_init.2.2.2.1, Jvm.Cond.initialized al_yX1_init.cls, Jvm.Cond.instanceMethod al_yX1_init], w ∈ lw_tbl
  exact List.forall_mem_cons.mpr ⟨(al_t3 (List.mem_of_getElem? (i := 209) rfl)), List.forall_mem_cons.mpr ⟨(al_t1 (List.mem_of_getElem? (i := 17) (by decide +kernel))), List.forall_mem_cons.mpr ⟨(al_t3 (List.mem_of_getElem? (i := 208) (by decide +kernel))), fun _ h => absurd h List.not_mem_nil⟩⟩⟩
set_option maxRecDepth 100000 in
theorem al_wm_X1_keepNames : ∀ w ∈ ev_blk (ev_unM al_mX1_keepNames, 0), w ∈ lw_tbl := by
  show ∀ w ∈ [Jvm.Cond.code al_yX1_keepNames al_mX1_keepNames.2.1 al_mX1_keepNames.2.2.1 al_mX1_keepNames.2.2.2.1, Jvm.Cond.initialized al_yX1_keepNames.cls, Jvm.Cond.instanceMethod al_yX1_keepNames, Jvm.Cond.selects al_yX1_keepNames.cls al_yX1_keepNames al_yX1_keepNames], w ∈ lw_tbl
  exact List.forall_mem_cons.mpr ⟨(al_t3 (List.mem_of_getElem? (i := 215) rfl)), List.forall_mem_cons.mpr ⟨(al_t1 (List.mem_of_getElem? (i := 17) (by decide +kernel))), List.forall_mem_cons.mpr ⟨(al_t3 (List.mem_of_getElem? (i := 214) (by decide +kernel))), List.forall_mem_cons.mpr ⟨(al_s (i := 3) (by decide +kernel)), fun _ h => absurd h List.not_mem_nil⟩⟩⟩⟩
set_option maxRecDepth 100000 in
theorem al_wm_X1_furnish : ∀ w ∈ ev_blk (ev_unM al_mX1_furnish, 0), w ∈ lw_tbl := by
  show ∀ w ∈ [Jvm.Cond.code al_yX1_furnish al_mX1_furnish.2.1 al_mX1_furnish.2.2.1 al_mX1_furnish.2.2.2.1, Jvm.Cond.initialized al_yX1_furnish.cls, Jvm.Cond.instanceMethod al_yX1_furnish, Jvm.Cond.selects al_yX1_furnish.cls al_yX1_furnish al_yX1_furnish], w ∈ lw_tbl
  exact List.forall_mem_cons.mpr ⟨(al_t7 (List.mem_of_getElem? (i := 209) rfl)), List.forall_mem_cons.mpr ⟨(al_t1 (List.mem_of_getElem? (i := 17) (by decide +kernel))), List.forall_mem_cons.mpr ⟨(al_t7 (List.mem_of_getElem? (i := 207) (by decide +kernel))), List.forall_mem_cons.mpr ⟨(al_t7 (List.mem_of_getElem? (i := 208) (by decide +kernel))), fun _ h => absurd h List.not_mem_nil⟩⟩⟩⟩
set_option maxRecDepth 100000 in
theorem al_wm_X1_newTable : ∀ w ∈ ev_blk (ev_unM al_mX1_newTable, 0), w ∈ lw_tbl := by
  show ∀ w ∈ [Jvm.Cond.code al_yX1_newTable al_mX1_newTable.2.1 al_mX1_newTable.2.2.1 al_mX1_newTable.2.2.2.1, Jvm.Cond.initialized al_yX1_newTable.cls, Jvm.Cond.instanceMethod al_yX1_newTable, Jvm.Cond.selects al_yX1_newTable.cls al_yX1_newTable al_yX1_newTable], w ∈ lw_tbl
  exact List.forall_mem_cons.mpr ⟨(al_t7 (List.mem_of_getElem? (i := 213) rfl)), List.forall_mem_cons.mpr ⟨(al_t1 (List.mem_of_getElem? (i := 17) (by decide +kernel))), List.forall_mem_cons.mpr ⟨(al_t7 (List.mem_of_getElem? (i := 211) (by decide +kernel))), List.forall_mem_cons.mpr ⟨(al_t7 (List.mem_of_getElem? (i := 212) (by decide +kernel))), fun _ h => absurd h List.not_mem_nil⟩⟩⟩⟩
set_option maxRecDepth 100000 in
theorem al_wm_J0_indexOf_0f7a4 : ∀ w ∈ ev_blk (ev_unM al_mJ0_indexOf_0f7a4, 0), w ∈ lw_tbl := by
  show ∀ w ∈ [Jvm.Cond.code al_yJ0_indexOf_0f7a4 al_mJ0_indexOf_0f7a4.2.1 al_mJ0_indexOf_0f7a4.2.2.1 al_mJ0_indexOf_0f7a4.2.2.2.1, Jvm.Cond.initialized al_yJ0_indexOf_0f7a4.cls, Jvm.Cond.instanceMethod al_yJ0_indexOf_0f7a4, Jvm.Cond.selects al_yJ0_indexOf_0f7a4.cls al_yJ0_indexOf_0f7a4 al_yJ0_indexOf_0f7a4], w ∈ lw_tbl
  exact List.forall_mem_cons.mpr ⟨(al_t5 (List.mem_of_getElem? (i := 51) rfl)), List.forall_mem_cons.mpr ⟨(al_t1 (List.mem_of_getElem? (i := 3) (by decide +kernel))), List.forall_mem_cons.mpr ⟨(al_t5 (List.mem_of_getElem? (i := 49) (by decide +kernel))), List.forall_mem_cons.mpr ⟨(al_t5 (List.mem_of_getElem? (i := 50) (by decide +kernel))), fun _ h => absurd h List.not_mem_nil⟩⟩⟩⟩
set_option maxRecDepth 100000 in
theorem al_wm_J0_indexOf_7cf53 : ∀ w ∈ ev_blk (ev_unM al_mJ0_indexOf_7cf53, 0), w ∈ lw_tbl := by
  show ∀ w ∈ [Jvm.Cond.code al_yJ0_indexOf_7cf53 al_mJ0_indexOf_7cf53.2.1 al_mJ0_indexOf_7cf53.2.2.1 al_mJ0_indexOf_7cf53.2.2.2.1, Jvm.Cond.initialized al_yJ0_indexOf_7cf53.cls, Jvm.Cond.instanceMethod al_yJ0_indexOf_7cf53, Jvm.Cond.selects al_yJ0_indexOf_7cf53.cls al_yJ0_indexOf_7cf53 al_yJ0_indexOf_7cf53], w ∈ lw_tbl
  exact List.forall_mem_cons.mpr ⟨(al_t5 (List.mem_of_getElem? (i := 55) rfl)), List.forall_mem_cons.mpr ⟨(al_t1 (List.mem_of_getElem? (i := 3) (by decide +kernel))), List.forall_mem_cons.mpr ⟨(al_t5 (List.mem_of_getElem? (i := 53) (by decide +kernel))), List.forall_mem_cons.mpr ⟨(al_t5 (List.mem_of_getElem? (i := 54) (by decide +kernel))), fun _ h => absurd h List.not_mem_nil⟩⟩⟩⟩
set_option maxRecDepth 100000 in
theorem al_wm_J0_substring_b52d3 : ∀ w ∈ ev_blk (ev_unM al_mJ0_substring_b52d3, 0), w ∈ lw_tbl := by
  show ∀ w ∈ [Jvm.Cond.code al_yJ0_substring_b52d3 al_mJ0_substring_b52d3.2.1 al_mJ0_substring_b52d3.2.2.1 al_mJ0_substring_b52d3.2.2.2.1, Jvm.Cond.initialized al_yJ0_substring_b52d3.cls, Jvm.Cond.instanceMethod al_yJ0_substring_b52d3, Jvm.Cond.selects al_yJ0_substring_b52d3.cls al_yJ0_substring_b52d3 al_yJ0_substring_b52d3], w ∈ lw_tbl
  exact List.forall_mem_cons.mpr ⟨(al_t5 (List.mem_of_getElem? (i := 96) rfl)), List.forall_mem_cons.mpr ⟨(al_t1 (List.mem_of_getElem? (i := 3) (by decide +kernel))), List.forall_mem_cons.mpr ⟨(al_t5 (List.mem_of_getElem? (i := 94) (by decide +kernel))), List.forall_mem_cons.mpr ⟨(al_t5 (List.mem_of_getElem? (i := 95) (by decide +kernel))), fun _ h => absurd h List.not_mem_nil⟩⟩⟩⟩
set_option maxRecDepth 100000 in
theorem al_wm_J0_substring_37a41 : ∀ w ∈ ev_blk (ev_unM al_mJ0_substring_37a41, 0), w ∈ lw_tbl := by
  show ∀ w ∈ [Jvm.Cond.code al_yJ0_substring_37a41 al_mJ0_substring_37a41.2.1 al_mJ0_substring_37a41.2.2.1 al_mJ0_substring_37a41.2.2.2.1, Jvm.Cond.initialized al_yJ0_substring_37a41.cls, Jvm.Cond.instanceMethod al_yJ0_substring_37a41, Jvm.Cond.selects al_yJ0_substring_37a41.cls al_yJ0_substring_37a41 al_yJ0_substring_37a41], w ∈ lw_tbl
  exact List.forall_mem_cons.mpr ⟨(al_t3 (List.mem_of_getElem? (i := 221) rfl)), List.forall_mem_cons.mpr ⟨(al_t1 (List.mem_of_getElem? (i := 3) (by decide +kernel))), List.forall_mem_cons.mpr ⟨(al_t3 (List.mem_of_getElem? (i := 219) (by decide +kernel))), List.forall_mem_cons.mpr ⟨(al_t3 (List.mem_of_getElem? (i := 220) (by decide +kernel))), fun _ h => absurd h List.not_mem_nil⟩⟩⟩⟩
set_option maxRecDepth 100000 in
theorem al_wm_J0_init_031fb : ∀ w ∈ ev_blk (ev_unM al_mJ0_init_031fb, 2), w ∈ lw_tbl := by
  show ∀ w ∈ [Jvm.Cond.code al_yJ0_init_031fb al_mJ0_init_031fb.2.1 al_mJ0_init_031fb.2.2.1 al_mJ0_init_031fb.2.2.2.1, Jvm.Cond.initialized al_yJ0_init_031fb.cls, Jvm.Cond.instanceMethod al_yJ0_init_031fb], w ∈ lw_tbl
  exact List.forall_mem_cons.mpr ⟨(al_t5 (List.mem_of_getElem? (i := 31) rfl)), List.forall_mem_cons.mpr ⟨(al_t1 (List.mem_of_getElem? (i := 3) (by decide +kernel))), List.forall_mem_cons.mpr ⟨(al_t5 (List.mem_of_getElem? (i := 30) (by decide +kernel))), fun _ h => absurd h List.not_mem_nil⟩⟩⟩
set_option maxRecDepth 100000 in
theorem al_wm_J0_checkBoundsBeginEnd_23922 : ∀ w ∈ ev_blk (ev_unM al_mJ0_checkBoundsBeginEnd_23922, 1), w ∈ lw_tbl := by
  show ∀ w ∈ [Jvm.Cond.code al_yJ0_checkBoundsBeginEnd_23922 al_mJ0_checkBoundsBeginEnd_23922.2.1 al_mJ0_checkBoundsBeginEnd_23922.2.2.1 al_mJ0_checkBoundsBeginEnd_23922.2.2.2.1, Jvm.Cond.initialized al_yJ0_checkBoundsBeginEnd_23922.cls, Jvm.Cond.static al_yJ0_checkBoundsBeginEnd_23922], w ∈ lw_tbl
  exact List.forall_mem_cons.mpr ⟨(al_t3 (List.mem_of_getElem? (i := 225) rfl)), List.forall_mem_cons.mpr ⟨(al_t1 (List.mem_of_getElem? (i := 3) (by decide +kernel))), List.forall_mem_cons.mpr ⟨(al_t3 (List.mem_of_getElem? (i := 224) (by decide +kernel))), fun _ h => absurd h List.not_mem_nil⟩⟩⟩
set_option maxRecDepth 100000 in
theorem al_wm_J1_canEncode_9a6ad : ∀ w ∈ ev_blk (ev_unM al_mJ1_canEncode_9a6ad, 1), w ∈ lw_tbl := by
  show ∀ w ∈ [Jvm.Cond.code al_yJ1_canEncode_9a6ad al_mJ1_canEncode_9a6ad.2.1 al_mJ1_canEncode_9a6ad.2.2.1 al_mJ1_canEncode_9a6ad.2.2.2.1, Jvm.Cond.initialized al_yJ1_canEncode_9a6ad.cls, Jvm.Cond.static al_yJ1_canEncode_9a6ad], w ∈ lw_tbl
  exact List.forall_mem_cons.mpr ⟨(al_t5 (List.mem_of_getElem? (i := 61) rfl)), List.forall_mem_cons.mpr ⟨(al_t1 (List.mem_of_getElem? (i := 4) (by decide +kernel))), List.forall_mem_cons.mpr ⟨(al_t5 (List.mem_of_getElem? (i := 60) (by decide +kernel))), fun _ h => absurd h List.not_mem_nil⟩⟩⟩
set_option maxRecDepth 100000 in
theorem al_wm_J1_indexOf_4cfef : ∀ w ∈ ev_blk (ev_unM al_mJ1_indexOf_4cfef, 1), w ∈ lw_tbl := by
  show ∀ w ∈ [Jvm.Cond.code al_yJ1_indexOf_4cfef al_mJ1_indexOf_4cfef.2.1 al_mJ1_indexOf_4cfef.2.2.1 al_mJ1_indexOf_4cfef.2.2.2.1, Jvm.Cond.initialized al_yJ1_indexOf_4cfef.cls, Jvm.Cond.static al_yJ1_indexOf_4cfef], w ∈ lw_tbl
  exact List.forall_mem_cons.mpr ⟨(al_t5 (List.mem_of_getElem? (i := 58) rfl)), List.forall_mem_cons.mpr ⟨(al_t1 (List.mem_of_getElem? (i := 4) (by decide +kernel))), List.forall_mem_cons.mpr ⟨(al_t5 (List.mem_of_getElem? (i := 57) (by decide +kernel))), fun _ h => absurd h List.not_mem_nil⟩⟩⟩
set_option maxRecDepth 100000 in
theorem al_wm_J1_indexOfChar_4cfef : ∀ w ∈ ev_blk (ev_unM al_mJ1_indexOfChar_4cfef, 1), w ∈ lw_tbl := by
  show ∀ w ∈ [Jvm.Cond.code al_yJ1_indexOfChar_4cfef al_mJ1_indexOfChar_4cfef.2.1 al_mJ1_indexOfChar_4cfef.2.2.1 al_mJ1_indexOfChar_4cfef.2.2.2.1, Jvm.Cond.initialized al_yJ1_indexOfChar_4cfef.cls, Jvm.Cond.static al_yJ1_indexOfChar_4cfef], w ∈ lw_tbl
  exact List.forall_mem_cons.mpr ⟨(al_t5 (List.mem_of_getElem? (i := 66) rfl)), List.forall_mem_cons.mpr ⟨(al_t1 (List.mem_of_getElem? (i := 4) (by decide +kernel))), List.forall_mem_cons.mpr ⟨(al_t5 (List.mem_of_getElem? (i := 65) (by decide +kernel))), fun _ h => absurd h List.not_mem_nil⟩⟩⟩
set_option maxRecDepth 100000 in
theorem al_wm_J1_newString_b4f7a : ∀ w ∈ ev_blk (ev_unM al_mJ1_newString_b4f7a, 1), w ∈ lw_tbl := by
  show ∀ w ∈ [Jvm.Cond.code al_yJ1_newString_b4f7a al_mJ1_newString_b4f7a.2.1 al_mJ1_newString_b4f7a.2.2.1 al_mJ1_newString_b4f7a.2.2.2.1, Jvm.Cond.initialized al_yJ1_newString_b4f7a.cls, Jvm.Cond.static al_yJ1_newString_b4f7a], w ∈ lw_tbl
  exact List.forall_mem_cons.mpr ⟨(al_t3 (List.mem_of_getElem? (i := 231) rfl)), List.forall_mem_cons.mpr ⟨(al_t1 (List.mem_of_getElem? (i := 4) (by decide +kernel))), List.forall_mem_cons.mpr ⟨(al_t3 (List.mem_of_getElem? (i := 230) (by decide +kernel))), fun _ h => absurd h List.not_mem_nil⟩⟩⟩
set_option maxRecDepth 100000 in
theorem al_wm_J3_checkFromToIndex_8c36e : ∀ w ∈ ev_blk (ev_unM al_mJ3_checkFromToIndex_8c36e, 1), w ∈ lw_tbl := by
  show ∀ w ∈ [Jvm.Cond.code al_yJ3_checkFromToIndex_8c36e al_mJ3_checkFromToIndex_8c36e.2.1 al_mJ3_checkFromToIndex_8c36e.2.2.1 al_mJ3_checkFromToIndex_8c36e.2.2.2.1, Jvm.Cond.initialized al_yJ3_checkFromToIndex_8c36e.cls, Jvm.Cond.static al_yJ3_checkFromToIndex_8c36e], w ∈ lw_tbl
  exact List.forall_mem_cons.mpr ⟨(al_t3 (List.mem_of_getElem? (i := 228) rfl)), List.forall_mem_cons.mpr ⟨(al_t1 (List.mem_of_getElem? (i := 5) (by decide +kernel))), List.forall_mem_cons.mpr ⟨(al_t3 (List.mem_of_getElem? (i := 227) (by decide +kernel))), fun _ h => absurd h List.not_mem_nil⟩⟩⟩
set_option maxRecDepth 100000 in
theorem al_wm_J7_fill_53178 : ∀ w ∈ ev_blk (ev_unM al_mJ7_fill_53178, 1), w ∈ lw_tbl := by
  show ∀ w ∈ [Jvm.Cond.code al_yJ7_fill_53178 al_mJ7_fill_53178.2.1 al_mJ7_fill_53178.2.2.1 al_mJ7_fill_53178.2.2.2.1, Jvm.Cond.initialized al_yJ7_fill_53178.cls, Jvm.Cond.static al_yJ7_fill_53178], w ∈ lw_tbl
  exact List.forall_mem_cons.mpr ⟨(al_t7 (List.mem_of_getElem? (i := 194) rfl)), List.forall_mem_cons.mpr ⟨(al_t1 (List.mem_of_getElem? (i := 18) (by decide +kernel))), List.forall_mem_cons.mpr ⟨(al_t7 (List.mem_of_getElem? (i := 193) (by decide +kernel))), fun _ h => absurd h List.not_mem_nil⟩⟩⟩
set_option maxRecDepth 100000 in
theorem al_wm_J7_fill_031fb : ∀ w ∈ ev_blk (ev_unM al_mJ7_fill_031fb, 1), w ∈ lw_tbl := by
  show ∀ w ∈ [Jvm.Cond.code al_yJ7_fill_031fb al_mJ7_fill_031fb.2.1 al_mJ7_fill_031fb.2.2.1 al_mJ7_fill_031fb.2.2.2.1, Jvm.Cond.initialized al_yJ7_fill_031fb.cls, Jvm.Cond.static al_yJ7_fill_031fb], w ∈ lw_tbl
  exact List.forall_mem_cons.mpr ⟨(al_t7 (List.mem_of_getElem? (i := 205) rfl)), List.forall_mem_cons.mpr ⟨(al_t1 (List.mem_of_getElem? (i := 18) (by decide +kernel))), List.forall_mem_cons.mpr ⟨(al_t7 (List.mem_of_getElem? (i := 204) (by decide +kernel))), fun _ h => absurd h List.not_mem_nil⟩⟩⟩
set_option maxRecDepth 100000 in
theorem al_wm_J7_checkLength_df160 : ∀ w ∈ ev_blk (ev_unM al_mJ7_checkLength_df160, 1), w ∈ lw_tbl := by
  show ∀ w ∈ [Jvm.Cond.code al_yJ7_checkLength_df160 al_mJ7_checkLength_df160.2.1 al_mJ7_checkLength_df160.2.2.1 al_mJ7_checkLength_df160.2.2.2.1, Jvm.Cond.initialized al_yJ7_checkLength_df160.cls, Jvm.Cond.static al_yJ7_checkLength_df160], w ∈ lw_tbl
  exact List.forall_mem_cons.mpr ⟨(al_t4 (List.mem_of_getElem? (i := 3) rfl)), List.forall_mem_cons.mpr ⟨(al_t1 (List.mem_of_getElem? (i := 18) (by decide +kernel))), List.forall_mem_cons.mpr ⟨(al_t4 (List.mem_of_getElem? (i := 2) (by decide +kernel))), fun _ h => absurd h List.not_mem_nil⟩⟩⟩
set_option maxRecDepth 100000 in
theorem al_wm_J7_copyOfRange_39247 : ∀ w ∈ ev_blk (ev_unM al_mJ7_copyOfRange_39247, 1), w ∈ lw_tbl := by
  show ∀ w ∈ [Jvm.Cond.code al_yJ7_copyOfRange_39247 al_mJ7_copyOfRange_39247.2.1 al_mJ7_copyOfRange_39247.2.2.1 al_mJ7_copyOfRange_39247.2.2.2.1, Jvm.Cond.initialized al_yJ7_copyOfRange_39247.cls, Jvm.Cond.static al_yJ7_copyOfRange_39247], w ∈ lw_tbl
  exact List.forall_mem_cons.mpr ⟨(al_t3 (List.mem_of_getElem? (i := 237) rfl)), List.forall_mem_cons.mpr ⟨(al_t1 (List.mem_of_getElem? (i := 18) (by decide +kernel))), List.forall_mem_cons.mpr ⟨(al_t3 (List.mem_of_getElem? (i := 236) (by decide +kernel))), fun _ h => absurd h List.not_mem_nil⟩⟩⟩
set_option maxRecDepth 100000 in
theorem al_wm_J7_copyOfRangeByte_39247 : ∀ w ∈ ev_blk (ev_unM al_mJ7_copyOfRangeByte_39247, 1), w ∈ lw_tbl := by
  show ∀ w ∈ [Jvm.Cond.code al_yJ7_copyOfRangeByte_39247 al_mJ7_copyOfRangeByte_39247.2.1 al_mJ7_copyOfRangeByte_39247.2.2.1 al_mJ7_copyOfRangeByte_39247.2.2.2.1, Jvm.Cond.initialized al_yJ7_copyOfRangeByte_39247.cls, Jvm.Cond.static al_yJ7_copyOfRangeByte_39247], w ∈ lw_tbl
  exact List.forall_mem_cons.mpr ⟨(al_t4 (List.mem_of_getElem? (i := 0) rfl)), List.forall_mem_cons.mpr ⟨(al_t1 (List.mem_of_getElem? (i := 18) (by decide +kernel))), List.forall_mem_cons.mpr ⟨(al_t3 (List.mem_of_getElem? (i := 239) (by decide +kernel))), fun _ h => absurd h List.not_mem_nil⟩⟩⟩
set_option maxRecDepth 100000 in
theorem al_wm_X4_refuse : ∀ w ∈ ev_blk (ev_unM al_mX4_refuse, 0), w ∈ lw_tbl := by
  show ∀ w ∈ [Jvm.Cond.code al_yX4_refuse al_mX4_refuse.2.1 al_mX4_refuse.2.2.1 al_mX4_refuse.2.2.2.1, Jvm.Cond.initialized al_yX4_refuse.cls, Jvm.Cond.instanceMethod al_yX4_refuse, Jvm.Cond.selects al_yX4_refuse.cls al_yX4_refuse al_yX4_refuse], w ∈ lw_tbl
  exact List.forall_mem_cons.mpr ⟨(al_t6 (List.mem_of_getElem? (i := 77) rfl)), List.forall_mem_cons.mpr ⟨(al_t1 (List.mem_of_getElem? (i := 12) (by decide +kernel))), List.forall_mem_cons.mpr ⟨(al_t6 (List.mem_of_getElem? (i := 76) (by decide +kernel))), List.forall_mem_cons.mpr ⟨(al_s (i := 10) (by decide +kernel)), fun _ h => absurd h List.not_mem_nil⟩⟩⟩⟩
set_option maxRecDepth 100000 in
theorem al_wm_X4_expect : ∀ w ∈ ev_blk (ev_unM al_mX4_expect, 0), w ∈ lw_tbl := by
  show ∀ w ∈ [Jvm.Cond.code al_yX4_expect al_mX4_expect.2.1 al_mX4_expect.2.2.1 al_mX4_expect.2.2.2.1, Jvm.Cond.initialized al_yX4_expect.cls, Jvm.Cond.instanceMethod al_yX4_expect, Jvm.Cond.selects al_yX4_expect.cls al_yX4_expect al_yX4_expect], w ∈ lw_tbl
  exact List.forall_mem_cons.mpr ⟨(al_t6 (List.mem_of_getElem? (i := 191) rfl)), List.forall_mem_cons.mpr ⟨(al_t1 (List.mem_of_getElem? (i := 12) (by decide +kernel))), List.forall_mem_cons.mpr ⟨(al_t6 (List.mem_of_getElem? (i := 190) (by decide +kernel))), List.forall_mem_cons.mpr ⟨(al_s (i := 21) (by decide +kernel)), fun _ h => absurd h List.not_mem_nil⟩⟩⟩⟩
set_option maxRecDepth 100000 in
theorem al_wm_X4_take : ∀ w ∈ ev_blk (ev_unM al_mX4_take, 0), w ∈ lw_tbl := by
  show ∀ w ∈ [Jvm.Cond.code al_yX4_take al_mX4_take.2.1 al_mX4_take.2.2.1 al_mX4_take.2.2.2.1, Jvm.Cond.initialized al_yX4_take.cls, Jvm.Cond.instanceMethod al_yX4_take, Jvm.Cond.selects al_yX4_take.cls al_yX4_take al_yX4_take], w ∈ lw_tbl
  exact List.forall_mem_cons.mpr ⟨(al_t6 (List.mem_of_getElem? (i := 167) rfl)), List.forall_mem_cons.mpr ⟨(al_t1 (List.mem_of_getElem? (i := 12) (by decide +kernel))), List.forall_mem_cons.mpr ⟨(al_t6 (List.mem_of_getElem? (i := 166) (by decide +kernel))), List.forall_mem_cons.mpr ⟨(al_s (i := 18) (by decide +kernel)), fun _ h => absurd h List.not_mem_nil⟩⟩⟩⟩
set_option maxRecDepth 100000 in
theorem al_wm_X4_push : ∀ w ∈ ev_blk (ev_unM al_mX4_push, 0), w ∈ lw_tbl := by
  show ∀ w ∈ [Jvm.Cond.code al_yX4_push al_mX4_push.2.1 al_mX4_push.2.2.1 al_mX4_push.2.2.2.1, Jvm.Cond.initialized al_yX4_push.cls, Jvm.Cond.instanceMethod al_yX4_push, Jvm.Cond.selects al_yX4_push.cls al_yX4_push al_yX4_push], w ∈ lw_tbl
  exact List.forall_mem_cons.mpr ⟨(al_t6 (List.mem_of_getElem? (i := 215) rfl)), List.forall_mem_cons.mpr ⟨(al_t1 (List.mem_of_getElem? (i := 12) (by decide +kernel))), List.forall_mem_cons.mpr ⟨(al_t6 (List.mem_of_getElem? (i := 214) (by decide +kernel))), List.forall_mem_cons.mpr ⟨(al_s (i := 26) (by decide +kernel)), fun _ h => absurd h List.not_mem_nil⟩⟩⟩⟩
set_option maxRecDepth 100000 in
theorem al_wm_X4_cut : ∀ w ∈ ev_blk (ev_unM al_mX4_cut, 0), w ∈ lw_tbl := by
  show ∀ w ∈ [Jvm.Cond.code al_yX4_cut al_mX4_cut.2.1 al_mX4_cut.2.2.1 al_mX4_cut.2.2.2.1, Jvm.Cond.initialized al_yX4_cut.cls, Jvm.Cond.instanceMethod al_yX4_cut, Jvm.Cond.selects al_yX4_cut.cls al_yX4_cut al_yX4_cut], w ∈ lw_tbl
  exact List.forall_mem_cons.mpr ⟨(al_t6 (List.mem_of_getElem? (i := 183) rfl)), List.forall_mem_cons.mpr ⟨(al_t1 (List.mem_of_getElem? (i := 12) (by decide +kernel))), List.forall_mem_cons.mpr ⟨(al_t6 (List.mem_of_getElem? (i := 182) (by decide +kernel))), List.forall_mem_cons.mpr ⟨(al_s (i := 20) (by decide +kernel)), fun _ h => absurd h List.not_mem_nil⟩⟩⟩⟩
set_option maxRecDepth 100000 in
theorem al_wm_X4_startsExpression : ∀ w ∈ ev_blk (ev_unM al_mX4_startsExpression, 0), w ∈ lw_tbl := by
  show ∀ w ∈ [Jvm.Cond.code al_yX4_startsExpression al_mX4_startsExpression.2.1 al_mX4_startsExpression.2.2.1 al_mX4_startsExpression.2.2.2.1, Jvm.Cond.initialized al_yX4_startsExpression.cls, Jvm.Cond.instanceMethod al_yX4_startsExpression, Jvm.Cond.selects al_yX4_startsExpression.cls al_yX4_startsExpression al_yX4_startsExpression], w ∈ lw_tbl
  exact List.forall_mem_cons.mpr ⟨(al_t6 (List.mem_of_getElem? (i := 207) rfl)), List.forall_mem_cons.mpr ⟨(al_t1 (List.mem_of_getElem? (i := 12) (by decide +kernel))), List.forall_mem_cons.mpr ⟨(al_t6 (List.mem_of_getElem? (i := 206) (by decide +kernel))), List.forall_mem_cons.mpr ⟨(al_s (i := 24) (by decide +kernel)), fun _ h => absurd h List.not_mem_nil⟩⟩⟩⟩
set_option maxRecDepth 100000 in
theorem al_wm_X4_closedBlock : ∀ w ∈ ev_blk (ev_unM al_mX4_closedBlock, 0), w ∈ lw_tbl := by
  show ∀ w ∈ [Jvm.Cond.code al_yX4_closedBlock al_mX4_closedBlock.2.1 al_mX4_closedBlock.2.2.1 al_mX4_closedBlock.2.2.2.1, Jvm.Cond.initialized al_yX4_closedBlock.cls, Jvm.Cond.instanceMethod al_yX4_closedBlock, Jvm.Cond.selects al_yX4_closedBlock.cls al_yX4_closedBlock al_yX4_closedBlock], w ∈ lw_tbl
  exact List.forall_mem_cons.mpr ⟨(al_t6 (List.mem_of_getElem? (i := 171) rfl)), List.forall_mem_cons.mpr ⟨(al_t1 (List.mem_of_getElem? (i := 12) (by decide +kernel))), List.forall_mem_cons.mpr ⟨(al_t6 (List.mem_of_getElem? (i := 170) (by decide +kernel))), List.forall_mem_cons.mpr ⟨(al_s (i := 19) (by decide +kernel)), fun _ h => absurd h List.not_mem_nil⟩⟩⟩⟩
set_option maxRecDepth 100000 in
theorem al_wm_X4_statement : ∀ w ∈ ev_blk (ev_unM al_mX4_statement, 0), w ∈ lw_tbl := by
  show ∀ w ∈ [Jvm.Cond.code al_yX4_statement al_mX4_statement.2.1 al_mX4_statement.2.2.1 al_mX4_statement.2.2.2.1, Jvm.Cond.initialized al_yX4_statement.cls, Jvm.Cond.instanceMethod al_yX4_statement, Jvm.Cond.selects al_yX4_statement.cls al_yX4_statement al_yX4_statement], w ∈ lw_tbl
  exact List.forall_mem_cons.mpr ⟨(al_t6 (List.mem_of_getElem? (i := 163) rfl)), List.forall_mem_cons.mpr ⟨(al_t1 (List.mem_of_getElem? (i := 12) (by decide +kernel))), List.forall_mem_cons.mpr ⟨(al_t6 (List.mem_of_getElem? (i := 162) (by decide +kernel))), List.forall_mem_cons.mpr ⟨(al_s (i := 17) (by decide +kernel)), fun _ h => absurd h List.not_mem_nil⟩⟩⟩⟩
set_option maxRecDepth 100000 in
theorem al_wm_X4_returnStatement : ∀ w ∈ ev_blk (ev_unM al_mX4_returnStatement, 0), w ∈ lw_tbl := by
  show ∀ w ∈ [Jvm.Cond.code al_yX4_returnStatement al_mX4_returnStatement.2.1 al_mX4_returnStatement.2.2.1 al_mX4_returnStatement.2.2.2.1, Jvm.Cond.initialized al_yX4_returnStatement.cls, Jvm.Cond.instanceMethod al_yX4_returnStatement, Jvm.Cond.selects al_yX4_returnStatement.cls al_yX4_returnStatement al_yX4_returnStatement], w ∈ lw_tbl
  exact List.forall_mem_cons.mpr ⟨(al_t7 (List.mem_of_getElem? (i := 174) rfl)), List.forall_mem_cons.mpr ⟨(al_t1 (List.mem_of_getElem? (i := 12) (by decide +kernel))), List.forall_mem_cons.mpr ⟨(al_t7 (List.mem_of_getElem? (i := 173) (by decide +kernel))), List.forall_mem_cons.mpr ⟨(al_s (i := 64) (by decide +kernel)), fun _ h => absurd h List.not_mem_nil⟩⟩⟩⟩
set_option maxRecDepth 100000 in
theorem al_wm_X4_breakStatement : ∀ w ∈ ev_blk (ev_unM al_mX4_breakStatement, 0), w ∈ lw_tbl := by
  show ∀ w ∈ [Jvm.Cond.code al_yX4_breakStatement al_mX4_breakStatement.2.1 al_mX4_breakStatement.2.2.1 al_mX4_breakStatement.2.2.2.1, Jvm.Cond.initialized al_yX4_breakStatement.cls, Jvm.Cond.instanceMethod al_yX4_breakStatement, Jvm.Cond.selects al_yX4_breakStatement.cls al_yX4_breakStatement al_yX4_breakStatement], w ∈ lw_tbl
  exact List.forall_mem_cons.mpr ⟨(al_t7 (List.mem_of_getElem? (i := 158) rfl)), List.forall_mem_cons.mpr ⟨(al_t1 (List.mem_of_getElem? (i := 12) (by decide +kernel))), List.forall_mem_cons.mpr ⟨(al_t7 (List.mem_of_getElem? (i := 157) (by decide +kernel))), List.forall_mem_cons.mpr ⟨(al_s (i := 60) (by decide +kernel)), fun _ h => absurd h List.not_mem_nil⟩⟩⟩⟩
set_option maxRecDepth 100000 in
theorem al_wm_X4_whileStatement : ∀ w ∈ ev_blk (ev_unM al_mX4_whileStatement, 0), w ∈ lw_tbl := by
  show ∀ w ∈ [Jvm.Cond.code al_yX4_whileStatement al_mX4_whileStatement.2.1 al_mX4_whileStatement.2.2.1 al_mX4_whileStatement.2.2.2.1, Jvm.Cond.initialized al_yX4_whileStatement.cls, Jvm.Cond.instanceMethod al_yX4_whileStatement, Jvm.Cond.selects al_yX4_whileStatement.cls al_yX4_whileStatement al_yX4_whileStatement], w ∈ lw_tbl
  exact List.forall_mem_cons.mpr ⟨(al_t6 (List.mem_of_getElem? (i := 195) rfl)), List.forall_mem_cons.mpr ⟨(al_t1 (List.mem_of_getElem? (i := 12) (by decide +kernel))), List.forall_mem_cons.mpr ⟨(al_t6 (List.mem_of_getElem? (i := 194) (by decide +kernel))), List.forall_mem_cons.mpr ⟨(al_s (i := 22) (by decide +kernel)), fun _ h => absurd h List.not_mem_nil⟩⟩⟩⟩
set_option maxRecDepth 100000 in
theorem al_wm_X4_endLoop : ∀ w ∈ ev_blk (ev_unM al_mX4_endLoop, 0), w ∈ lw_tbl := by
  show ∀ w ∈ [Jvm.Cond.code al_yX4_endLoop al_mX4_endLoop.2.1 al_mX4_endLoop.2.2.1 al_mX4_endLoop.2.2.2.1, Jvm.Cond.initialized al_yX4_endLoop.cls, Jvm.Cond.instanceMethod al_yX4_endLoop, Jvm.Cond.selects al_yX4_endLoop.cls al_yX4_endLoop al_yX4_endLoop], w ∈ lw_tbl
  exact List.forall_mem_cons.mpr ⟨(al_t7 (List.mem_of_getElem? (i := 106) rfl)), List.forall_mem_cons.mpr ⟨(al_t1 (List.mem_of_getElem? (i := 12) (by decide +kernel))), List.forall_mem_cons.mpr ⟨(al_t7 (List.mem_of_getElem? (i := 105) (by decide +kernel))), List.forall_mem_cons.mpr ⟨(al_s (i := 47) (by decide +kernel)), fun _ h => absurd h List.not_mem_nil⟩⟩⟩⟩
set_option maxRecDepth 100000 in
theorem al_wm_X4_repeatStatement : ∀ w ∈ ev_blk (ev_unM al_mX4_repeatStatement, 0), w ∈ lw_tbl := by
  show ∀ w ∈ [Jvm.Cond.code al_yX4_repeatStatement al_mX4_repeatStatement.2.1 al_mX4_repeatStatement.2.2.1 al_mX4_repeatStatement.2.2.2.1, Jvm.Cond.initialized al_yX4_repeatStatement.cls, Jvm.Cond.instanceMethod al_yX4_repeatStatement, Jvm.Cond.selects al_yX4_repeatStatement.cls al_yX4_repeatStatement al_yX4_repeatStatement], w ∈ lw_tbl
  exact List.forall_mem_cons.mpr ⟨(al_t7 (List.mem_of_getElem? (i := 110) rfl)), List.forall_mem_cons.mpr ⟨(al_t1 (List.mem_of_getElem? (i := 12) (by decide +kernel))), List.forall_mem_cons.mpr ⟨(al_t7 (List.mem_of_getElem? (i := 109) (by decide +kernel))), List.forall_mem_cons.mpr ⟨(al_s (i := 48) (by decide +kernel)), fun _ h => absurd h List.not_mem_nil⟩⟩⟩⟩
set_option maxRecDepth 100000 in
theorem al_wm_X4_ifStatement : ∀ w ∈ ev_blk (ev_unM al_mX4_ifStatement, 0), w ∈ lw_tbl := by
  show ∀ w ∈ [Jvm.Cond.code al_yX4_ifStatement al_mX4_ifStatement.2.1 al_mX4_ifStatement.2.2.1 al_mX4_ifStatement.2.2.2.1, Jvm.Cond.initialized al_yX4_ifStatement.cls, Jvm.Cond.instanceMethod al_yX4_ifStatement, Jvm.Cond.selects al_yX4_ifStatement.cls al_yX4_ifStatement al_yX4_ifStatement], w ∈ lw_tbl
  exact List.forall_mem_cons.mpr ⟨(al_t7 (List.mem_of_getElem? (i := 114) rfl)), List.forall_mem_cons.mpr ⟨(al_t1 (List.mem_of_getElem? (i := 12) (by decide +kernel))), List.forall_mem_cons.mpr ⟨(al_t7 (List.mem_of_getElem? (i := 113) (by decide +kernel))), List.forall_mem_cons.mpr ⟨(al_s (i := 49) (by decide +kernel)), fun _ h => absurd h List.not_mem_nil⟩⟩⟩⟩
set_option maxRecDepth 100000 in
theorem al_wm_X4_condition : ∀ w ∈ ev_blk (ev_unM al_mX4_condition, 0), w ∈ lw_tbl := by
  show ∀ w ∈ [Jvm.Cond.code al_yX4_condition al_mX4_condition.2.1 al_mX4_condition.2.2.1 al_mX4_condition.2.2.2.1, Jvm.Cond.initialized al_yX4_condition.cls, Jvm.Cond.instanceMethod al_yX4_condition, Jvm.Cond.selects al_yX4_condition.cls al_yX4_condition al_yX4_condition], w ∈ lw_tbl
  exact List.forall_mem_cons.mpr ⟨(al_t7 (List.mem_of_getElem? (i := 118) rfl)), List.forall_mem_cons.mpr ⟨(al_t1 (List.mem_of_getElem? (i := 12) (by decide +kernel))), List.forall_mem_cons.mpr ⟨(al_t7 (List.mem_of_getElem? (i := 117) (by decide +kernel))), List.forall_mem_cons.mpr ⟨(al_s (i := 50) (by decide +kernel)), fun _ h => absurd h List.not_mem_nil⟩⟩⟩⟩
set_option maxRecDepth 100000 in
theorem al_wm_X4_newName : ∀ w ∈ ev_blk (ev_unM al_mX4_newName, 0), w ∈ lw_tbl := by
  show ∀ w ∈ [Jvm.Cond.code al_yX4_newName al_mX4_newName.2.1 al_mX4_newName.2.2.1 al_mX4_newName.2.2.2.1, Jvm.Cond.initialized al_yX4_newName.cls, Jvm.Cond.instanceMethod al_yX4_newName, Jvm.Cond.selects al_yX4_newName.cls al_yX4_newName al_yX4_newName], w ∈ lw_tbl
  exact List.forall_mem_cons.mpr ⟨(al_t7 (List.mem_of_getElem? (i := 7) rfl)), List.forall_mem_cons.mpr ⟨(al_t1 (List.mem_of_getElem? (i := 12) (by decide +kernel))), List.forall_mem_cons.mpr ⟨(al_t7 (List.mem_of_getElem? (i := 6) (by decide +kernel))), List.forall_mem_cons.mpr ⟨(al_s (i := 30) (by decide +kernel)), fun _ h => absurd h List.not_mem_nil⟩⟩⟩⟩
set_option maxRecDepth 100000 in
theorem al_wm_X4_moreNames : ∀ w ∈ ev_blk (ev_unM al_mX4_moreNames, 0), w ∈ lw_tbl := by
  show ∀ w ∈ [Jvm.Cond.code al_yX4_moreNames al_mX4_moreNames.2.1 al_mX4_moreNames.2.2.1 al_mX4_moreNames.2.2.2.1, Jvm.Cond.initialized al_yX4_moreNames.cls, Jvm.Cond.instanceMethod al_yX4_moreNames, Jvm.Cond.selects al_yX4_moreNames.cls al_yX4_moreNames al_yX4_moreNames], w ∈ lw_tbl
  exact List.forall_mem_cons.mpr ⟨(al_t7 (List.mem_of_getElem? (i := 130) rfl)), List.forall_mem_cons.mpr ⟨(al_t1 (List.mem_of_getElem? (i := 12) (by decide +kernel))), List.forall_mem_cons.mpr ⟨(al_t7 (List.mem_of_getElem? (i := 129) (by decide +kernel))), List.forall_mem_cons.mpr ⟨(al_s (i := 53) (by decide +kernel)), fun _ h => absurd h List.not_mem_nil⟩⟩⟩⟩
set_option maxRecDepth 100000 in
theorem al_wm_X4_forStatement : ∀ w ∈ ev_blk (ev_unM al_mX4_forStatement, 0), w ∈ lw_tbl := by
  show ∀ w ∈ [Jvm.Cond.code al_yX4_forStatement al_mX4_forStatement.2.1 al_mX4_forStatement.2.2.1 al_mX4_forStatement.2.2.2.1, Jvm.Cond.initialized al_yX4_forStatement.cls, Jvm.Cond.instanceMethod al_yX4_forStatement, Jvm.Cond.selects al_yX4_forStatement.cls al_yX4_forStatement al_yX4_forStatement], w ∈ lw_tbl
  exact List.forall_mem_cons.mpr ⟨(al_t7 (List.mem_of_getElem? (i := 122) rfl)), List.forall_mem_cons.mpr ⟨(al_t1 (List.mem_of_getElem? (i := 12) (by decide +kernel))), List.forall_mem_cons.mpr ⟨(al_t7 (List.mem_of_getElem? (i := 121) (by decide +kernel))), List.forall_mem_cons.mpr ⟨(al_s (i := 51) (by decide +kernel)), fun _ h => absurd h List.not_mem_nil⟩⟩⟩⟩
set_option maxRecDepth 100000 in
theorem al_wm_X4_countingFor : ∀ w ∈ ev_blk (ev_unM al_mX4_countingFor, 0), w ∈ lw_tbl := by
  show ∀ w ∈ [Jvm.Cond.code al_yX4_countingFor al_mX4_countingFor.2.1 al_mX4_countingFor.2.2.1 al_mX4_countingFor.2.2.2.1, Jvm.Cond.initialized al_yX4_countingFor.cls, Jvm.Cond.instanceMethod al_yX4_countingFor, Jvm.Cond.selects al_yX4_countingFor.cls al_yX4_countingFor al_yX4_countingFor], w ∈ lw_tbl
  exact List.forall_mem_cons.mpr ⟨(al_t7 (List.mem_of_getElem? (i := 126) rfl)), List.forall_mem_cons.mpr ⟨(al_t1 (List.mem_of_getElem? (i := 12) (by decide +kernel))), List.forall_mem_cons.mpr ⟨(al_t7 (List.mem_of_getElem? (i := 125) (by decide +kernel))), List.forall_mem_cons.mpr ⟨(al_s (i := 52) (by decide +kernel)), fun _ h => absurd h List.not_mem_nil⟩⟩⟩⟩
set_option maxRecDepth 100000 in
theorem al_wm_X4_rowFor : ∀ w ∈ ev_blk (ev_unM al_mX4_rowFor, 0), w ∈ lw_tbl := by
  show ∀ w ∈ [Jvm.Cond.code al_yX4_rowFor al_mX4_rowFor.2.1 al_mX4_rowFor.2.2.1 al_mX4_rowFor.2.2.2.1, Jvm.Cond.initialized al_yX4_rowFor.cls, Jvm.Cond.instanceMethod al_yX4_rowFor, Jvm.Cond.selects al_yX4_rowFor.cls al_yX4_rowFor al_yX4_rowFor], w ∈ lw_tbl
  exact List.forall_mem_cons.mpr ⟨(al_t7 (List.mem_of_getElem? (i := 134) rfl)), List.forall_mem_cons.mpr ⟨(al_t1 (List.mem_of_getElem? (i := 12) (by decide +kernel))), List.forall_mem_cons.mpr ⟨(al_t7 (List.mem_of_getElem? (i := 133) (by decide +kernel))), List.forall_mem_cons.mpr ⟨(al_s (i := 54) (by decide +kernel)), fun _ h => absurd h List.not_mem_nil⟩⟩⟩⟩
set_option maxRecDepth 100000 in
theorem al_wm_X4_adjust : ∀ w ∈ ev_blk (ev_unM al_mX4_adjust, 0), w ∈ lw_tbl := by
  show ∀ w ∈ [Jvm.Cond.code al_yX4_adjust al_mX4_adjust.2.1 al_mX4_adjust.2.2.1 al_mX4_adjust.2.2.2.1, Jvm.Cond.initialized al_yX4_adjust.cls, Jvm.Cond.instanceMethod al_yX4_adjust, Jvm.Cond.selects al_yX4_adjust.cls al_yX4_adjust al_yX4_adjust], w ∈ lw_tbl
  exact List.forall_mem_cons.mpr ⟨(al_t7 (List.mem_of_getElem? (i := 138) rfl)), List.forall_mem_cons.mpr ⟨(al_t1 (List.mem_of_getElem? (i := 12) (by decide +kernel))), List.forall_mem_cons.mpr ⟨(al_t7 (List.mem_of_getElem? (i := 137) (by decide +kernel))), List.forall_mem_cons.mpr ⟨(al_s (i := 55) (by decide +kernel)), fun _ h => absurd h List.not_mem_nil⟩⟩⟩⟩
set_option maxRecDepth 100000 in
theorem al_wm_X4_localStatement : ∀ w ∈ ev_blk (ev_unM al_mX4_localStatement, 0), w ∈ lw_tbl := by
  show ∀ w ∈ [Jvm.Cond.code al_yX4_localStatement al_mX4_localStatement.2.1 al_mX4_localStatement.2.2.1 al_mX4_localStatement.2.2.2.1, Jvm.Cond.initialized al_yX4_localStatement.cls, Jvm.Cond.instanceMethod al_yX4_localStatement, Jvm.Cond.selects al_yX4_localStatement.cls al_yX4_localStatement al_yX4_localStatement], w ∈ lw_tbl
  exact List.forall_mem_cons.mpr ⟨(al_t7 (List.mem_of_getElem? (i := 154) rfl)), List.forall_mem_cons.mpr ⟨(al_t1 (List.mem_of_getElem? (i := 12) (by decide +kernel))), List.forall_mem_cons.mpr ⟨(al_t7 (List.mem_of_getElem? (i := 153) (by decide +kernel))), List.forall_mem_cons.mpr ⟨(al_s (i := 59) (by decide +kernel)), fun _ h => absurd h List.not_mem_nil⟩⟩⟩⟩
set_option maxRecDepth 100000 in
theorem al_wm_X4_functionStatement : ∀ w ∈ ev_blk (ev_unM al_mX4_functionStatement, 0), w ∈ lw_tbl := by
  show ∀ w ∈ [Jvm.Cond.code al_yX4_functionStatement al_mX4_functionStatement.2.1 al_mX4_functionStatement.2.2.1 al_mX4_functionStatement.2.2.2.1, Jvm.Cond.initialized al_yX4_functionStatement.cls, Jvm.Cond.instanceMethod al_yX4_functionStatement, Jvm.Cond.selects al_yX4_functionStatement.cls al_yX4_functionStatement al_yX4_functionStatement], w ∈ lw_tbl
  exact List.forall_mem_cons.mpr ⟨(al_t7 (List.mem_of_getElem? (i := 142) rfl)), List.forall_mem_cons.mpr ⟨(al_t1 (List.mem_of_getElem? (i := 12) (by decide +kernel))), List.forall_mem_cons.mpr ⟨(al_t7 (List.mem_of_getElem? (i := 141) (by decide +kernel))), List.forall_mem_cons.mpr ⟨(al_s (i := 56) (by decide +kernel)), fun _ h => absurd h List.not_mem_nil⟩⟩⟩⟩
set_option maxRecDepth 100000 in
theorem al_wm_X4_cutIfNeeded : ∀ w ∈ ev_blk (ev_unM al_mX4_cutIfNeeded, 0), w ∈ lw_tbl := by
  show ∀ w ∈ [Jvm.Cond.code al_yX4_cutIfNeeded al_mX4_cutIfNeeded.2.1 al_mX4_cutIfNeeded.2.2.1 al_mX4_cutIfNeeded.2.2.2.1, Jvm.Cond.initialized al_yX4_cutIfNeeded.cls, Jvm.Cond.instanceMethod al_yX4_cutIfNeeded, Jvm.Cond.selects al_yX4_cutIfNeeded.cls al_yX4_cutIfNeeded al_yX4_cutIfNeeded], w ∈ lw_tbl
  exact List.forall_mem_cons.mpr ⟨(al_t7 (List.mem_of_getElem? (i := 150) rfl)), List.forall_mem_cons.mpr ⟨(al_t1 (List.mem_of_getElem? (i := 12) (by decide +kernel))), List.forall_mem_cons.mpr ⟨(al_t7 (List.mem_of_getElem? (i := 149) (by decide +kernel))), List.forall_mem_cons.mpr ⟨(al_s (i := 58) (by decide +kernel)), fun _ h => absurd h List.not_mem_nil⟩⟩⟩⟩
set_option maxRecDepth 100000 in
theorem al_wm_X4_startName : ∀ w ∈ ev_blk (ev_unM al_mX4_startName, 0), w ∈ lw_tbl := by
  show ∀ w ∈ [Jvm.Cond.code al_yX4_startName al_mX4_startName.2.1 al_mX4_startName.2.2.1 al_mX4_startName.2.2.2.1, Jvm.Cond.initialized al_yX4_startName.cls, Jvm.Cond.instanceMethod al_yX4_startName, Jvm.Cond.selects al_yX4_startName.cls al_yX4_startName al_yX4_startName], w ∈ lw_tbl
  exact List.forall_mem_cons.mpr ⟨(al_t7 (List.mem_of_getElem? (i := 55) rfl)), List.forall_mem_cons.mpr ⟨(al_t1 (List.mem_of_getElem? (i := 12) (by decide +kernel))), List.forall_mem_cons.mpr ⟨(al_t7 (List.mem_of_getElem? (i := 54) (by decide +kernel))), List.forall_mem_cons.mpr ⟨(al_s (i := 37) (by decide +kernel)), fun _ h => absurd h List.not_mem_nil⟩⟩⟩⟩
set_option maxRecDepth 100000 in
theorem al_wm_X4_fieldName : ∀ w ∈ ev_blk (ev_unM al_mX4_fieldName, 0), w ∈ lw_tbl := by
  show ∀ w ∈ [Jvm.Cond.code al_yX4_fieldName al_mX4_fieldName.2.1 al_mX4_fieldName.2.2.1 al_mX4_fieldName.2.2.2.1, Jvm.Cond.initialized al_yX4_fieldName.cls, Jvm.Cond.instanceMethod al_yX4_fieldName, Jvm.Cond.selects al_yX4_fieldName.cls al_yX4_fieldName al_yX4_fieldName], w ∈ lw_tbl
  exact List.forall_mem_cons.mpr ⟨(al_t7 (List.mem_of_getElem? (i := 75) rfl)), List.forall_mem_cons.mpr ⟨(al_t1 (List.mem_of_getElem? (i := 12) (by decide +kernel))), List.forall_mem_cons.mpr ⟨(al_t7 (List.mem_of_getElem? (i := 74) (by decide +kernel))), List.forall_mem_cons.mpr ⟨(al_s (i := 41) (by decide +kernel)), fun _ h => absurd h List.not_mem_nil⟩⟩⟩⟩
set_option maxRecDepth 100000 in
theorem al_wm_X4_keyName : ∀ w ∈ ev_blk (ev_unM al_mX4_keyName, 0), w ∈ lw_tbl := by
  show ∀ w ∈ [Jvm.Cond.code al_yX4_keyName al_mX4_keyName.2.1 al_mX4_keyName.2.2.1 al_mX4_keyName.2.2.2.1, Jvm.Cond.initialized al_yX4_keyName.cls, Jvm.Cond.instanceMethod al_yX4_keyName, Jvm.Cond.selects al_yX4_keyName.cls al_yX4_keyName al_yX4_keyName], w ∈ lw_tbl
  exact List.forall_mem_cons.mpr ⟨(al_t7 (List.mem_of_getElem? (i := 35) rfl)), List.forall_mem_cons.mpr ⟨(al_t1 (List.mem_of_getElem? (i := 12) (by decide +kernel))), List.forall_mem_cons.mpr ⟨(al_t7 (List.mem_of_getElem? (i := 34) (by decide +kernel))), List.forall_mem_cons.mpr ⟨(al_s (i := 33) (by decide +kernel)), fun _ h => absurd h List.not_mem_nil⟩⟩⟩⟩
set_option maxRecDepth 100000 in
theorem al_wm_X4_readTail : ∀ w ∈ ev_blk (ev_unM al_mX4_readTail, 0), w ∈ lw_tbl := by
  show ∀ w ∈ [Jvm.Cond.code al_yX4_readTail al_mX4_readTail.2.1 al_mX4_readTail.2.2.1 al_mX4_readTail.2.2.2.1, Jvm.Cond.initialized al_yX4_readTail.cls, Jvm.Cond.instanceMethod al_yX4_readTail, Jvm.Cond.selects al_yX4_readTail.cls al_yX4_readTail al_yX4_readTail], w ∈ lw_tbl
  exact List.forall_mem_cons.mpr ⟨(al_t7 (List.mem_of_getElem? (i := 79) rfl)), List.forall_mem_cons.mpr ⟨(al_t1 (List.mem_of_getElem? (i := 12) (by decide +kernel))), List.forall_mem_cons.mpr ⟨(al_t7 (List.mem_of_getElem? (i := 78) (by decide +kernel))), List.forall_mem_cons.mpr ⟨(al_s (i := 42) (by decide +kernel)), fun _ h => absurd h List.not_mem_nil⟩⟩⟩⟩
set_option maxRecDepth 100000 in
theorem al_wm_X4_chain : ∀ w ∈ ev_blk (ev_unM al_mX4_chain, 0), w ∈ lw_tbl := by
  show ∀ w ∈ [Jvm.Cond.code al_yX4_chain al_mX4_chain.2.1 al_mX4_chain.2.2.1 al_mX4_chain.2.2.2.1, Jvm.Cond.initialized al_yX4_chain.cls, Jvm.Cond.instanceMethod al_yX4_chain, Jvm.Cond.selects al_yX4_chain.cls al_yX4_chain al_yX4_chain], w ∈ lw_tbl
  exact List.forall_mem_cons.mpr ⟨(al_t7 (List.mem_of_getElem? (i := 51) rfl)), List.forall_mem_cons.mpr ⟨(al_t1 (List.mem_of_getElem? (i := 12) (by decide +kernel))), List.forall_mem_cons.mpr ⟨(al_t7 (List.mem_of_getElem? (i := 50) (by decide +kernel))), List.forall_mem_cons.mpr ⟨(al_s (i := 36) (by decide +kernel)), fun _ h => absurd h List.not_mem_nil⟩⟩⟩⟩
set_option maxRecDepth 100000 in
theorem al_wm_X4_link : ∀ w ∈ ev_blk (ev_unM al_mX4_link, 0), w ∈ lw_tbl := by
  show ∀ w ∈ [Jvm.Cond.code al_yX4_link al_mX4_link.2.1 al_mX4_link.2.2.1 al_mX4_link.2.2.2.1, Jvm.Cond.initialized al_yX4_link.cls, Jvm.Cond.instanceMethod al_yX4_link, Jvm.Cond.selects al_yX4_link.cls al_yX4_link al_yX4_link], w ∈ lw_tbl
  exact List.forall_mem_cons.mpr ⟨(al_t7 (List.mem_of_getElem? (i := 71) rfl)), List.forall_mem_cons.mpr ⟨(al_t1 (List.mem_of_getElem? (i := 12) (by decide +kernel))), List.forall_mem_cons.mpr ⟨(al_t7 (List.mem_of_getElem? (i := 70) (by decide +kernel))), List.forall_mem_cons.mpr ⟨(al_s (i := 40) (by decide +kernel)), fun _ h => absurd h List.not_mem_nil⟩⟩⟩⟩
set_option maxRecDepth 100000 in
theorem al_wm_X4_given : ∀ w ∈ ev_blk (ev_unM al_mX4_given, 0), w ∈ lw_tbl := by
  show ∀ w ∈ [Jvm.Cond.code al_yX4_given al_mX4_given.2.1 al_mX4_given.2.2.1 al_mX4_given.2.2.2.1, Jvm.Cond.initialized al_yX4_given.cls, Jvm.Cond.instanceMethod al_yX4_given, Jvm.Cond.selects al_yX4_given.cls al_yX4_given al_yX4_given], w ∈ lw_tbl
  exact List.forall_mem_cons.mpr ⟨(al_t7 (List.mem_of_getElem? (i := 83) rfl)), List.forall_mem_cons.mpr ⟨(al_t1 (List.mem_of_getElem? (i := 12) (by decide +kernel))), List.forall_mem_cons.mpr ⟨(al_t7 (List.mem_of_getElem? (i := 82) (by decide +kernel))), List.forall_mem_cons.mpr ⟨(al_s (i := 43) (by decide +kernel)), fun _ h => absurd h List.not_mem_nil⟩⟩⟩⟩
set_option maxRecDepth 100000 in
theorem al_wm_X4_chainStatement : ∀ w ∈ ev_blk (ev_unM al_mX4_chainStatement, 0), w ∈ lw_tbl := by
  show ∀ w ∈ [Jvm.Cond.code al_yX4_chainStatement al_mX4_chainStatement.2.1 al_mX4_chainStatement.2.2.1 al_mX4_chainStatement.2.2.2.1, Jvm.Cond.initialized al_yX4_chainStatement.cls, Jvm.Cond.instanceMethod al_yX4_chainStatement, Jvm.Cond.selects al_yX4_chainStatement.cls al_yX4_chainStatement al_yX4_chainStatement], w ∈ lw_tbl
  exact List.forall_mem_cons.mpr ⟨(al_t7 (List.mem_of_getElem? (i := 162) rfl)), List.forall_mem_cons.mpr ⟨(al_t1 (List.mem_of_getElem? (i := 12) (by decide +kernel))), List.forall_mem_cons.mpr ⟨(al_t7 (List.mem_of_getElem? (i := 161) (by decide +kernel))), List.forall_mem_cons.mpr ⟨(al_s (i := 61) (by decide +kernel)), fun _ h => absurd h List.not_mem_nil⟩⟩⟩⟩
set_option maxRecDepth 100000 in
theorem al_wm_X4_assignment : ∀ w ∈ ev_blk (ev_unM al_mX4_assignment, 0), w ∈ lw_tbl := by
  show ∀ w ∈ [Jvm.Cond.code al_yX4_assignment al_mX4_assignment.2.1 al_mX4_assignment.2.2.1 al_mX4_assignment.2.2.2.1, Jvm.Cond.initialized al_yX4_assignment.cls, Jvm.Cond.instanceMethod al_yX4_assignment, Jvm.Cond.selects al_yX4_assignment.cls al_yX4_assignment al_yX4_assignment], w ∈ lw_tbl
  exact List.forall_mem_cons.mpr ⟨(al_t7 (List.mem_of_getElem? (i := 166) rfl)), List.forall_mem_cons.mpr ⟨(al_t1 (List.mem_of_getElem? (i := 12) (by decide +kernel))), List.forall_mem_cons.mpr ⟨(al_t7 (List.mem_of_getElem? (i := 165) (by decide +kernel))), List.forall_mem_cons.mpr ⟨(al_s (i := 62) (by decide +kernel)), fun _ h => absurd h List.not_mem_nil⟩⟩⟩⟩
set_option maxRecDepth 100000 in
theorem al_wm_X4_notePlace : ∀ w ∈ ev_blk (ev_unM al_mX4_notePlace, 0), w ∈ lw_tbl := by
  show ∀ w ∈ [Jvm.Cond.code al_yX4_notePlace al_mX4_notePlace.2.1 al_mX4_notePlace.2.2.1 al_mX4_notePlace.2.2.2.1, Jvm.Cond.initialized al_yX4_notePlace.cls, Jvm.Cond.instanceMethod al_yX4_notePlace, Jvm.Cond.selects al_yX4_notePlace.cls al_yX4_notePlace al_yX4_notePlace], w ∈ lw_tbl
  exact List.forall_mem_cons.mpr ⟨(al_t7 (List.mem_of_getElem? (i := 170) rfl)), List.forall_mem_cons.mpr ⟨(al_t1 (List.mem_of_getElem? (i := 12) (by decide +kernel))), List.forall_mem_cons.mpr ⟨(al_t7 (List.mem_of_getElem? (i := 169) (by decide +kernel))), List.forall_mem_cons.mpr ⟨(al_s (i := 63) (by decide +kernel)), fun _ h => absurd h List.not_mem_nil⟩⟩⟩⟩
set_option maxRecDepth 100000 in
theorem al_wm_X4_assign : ∀ w ∈ ev_blk (ev_unM al_mX4_assign, 0), w ∈ lw_tbl := by
  show ∀ w ∈ [Jvm.Cond.code al_yX4_assign al_mX4_assign.2.1 al_mX4_assign.2.2.1 al_mX4_assign.2.2.2.1, Jvm.Cond.initialized al_yX4_assign.cls, Jvm.Cond.instanceMethod al_yX4_assign, Jvm.Cond.selects al_yX4_assign.cls al_yX4_assign al_yX4_assign], w ∈ lw_tbl
  exact List.forall_mem_cons.mpr ⟨(al_t7 (List.mem_of_getElem? (i := 146) rfl)), List.forall_mem_cons.mpr ⟨(al_t1 (List.mem_of_getElem? (i := 12) (by decide +kernel))), List.forall_mem_cons.mpr ⟨(al_t7 (List.mem_of_getElem? (i := 145) (by decide +kernel))), List.forall_mem_cons.mpr ⟨(al_s (i := 57) (by decide +kernel)), fun _ h => absurd h List.not_mem_nil⟩⟩⟩⟩
set_option maxRecDepth 100000 in
theorem al_wm_X4_row : ∀ w ∈ ev_blk (ev_unM al_mX4_row, 0), w ∈ lw_tbl := by
  show ∀ w ∈ [Jvm.Cond.code al_yX4_row al_mX4_row.2.1 al_mX4_row.2.2.1 al_mX4_row.2.2.2.1, Jvm.Cond.initialized al_yX4_row.cls, Jvm.Cond.instanceMethod al_yX4_row, Jvm.Cond.selects al_yX4_row.cls al_yX4_row al_yX4_row], w ∈ lw_tbl
  exact List.forall_mem_cons.mpr ⟨(al_t7 (List.mem_of_getElem? (i := 87) rfl)), List.forall_mem_cons.mpr ⟨(al_t1 (List.mem_of_getElem? (i := 12) (by decide +kernel))), List.forall_mem_cons.mpr ⟨(al_t7 (List.mem_of_getElem? (i := 86) (by decide +kernel))), List.forall_mem_cons.mpr ⟨(al_s (i := 44) (by decide +kernel)), fun _ h => absurd h List.not_mem_nil⟩⟩⟩⟩
set_option maxRecDepth 100000 in
theorem al_wm_X4_strength : ∀ w ∈ ev_blk (ev_unM al_mX4_strength, 0), w ∈ lw_tbl := by
  show ∀ w ∈ [Jvm.Cond.code al_yX4_strength al_mX4_strength.2.1 al_mX4_strength.2.2.1 al_mX4_strength.2.2.2.1, Jvm.Cond.initialized al_yX4_strength.cls, Jvm.Cond.instanceMethod al_yX4_strength, Jvm.Cond.selects al_yX4_strength.cls al_yX4_strength al_yX4_strength], w ∈ lw_tbl
  exact List.forall_mem_cons.mpr ⟨(al_t7 (List.mem_of_getElem? (i := 91) rfl)), List.forall_mem_cons.mpr ⟨(al_t1 (List.mem_of_getElem? (i := 12) (by decide +kernel))), List.forall_mem_cons.mpr ⟨(al_t7 (List.mem_of_getElem? (i := 90) (by decide +kernel))), List.forall_mem_cons.mpr ⟨(al_s (i := 45) (by decide +kernel)), fun _ h => absurd h List.not_mem_nil⟩⟩⟩⟩
set_option maxRecDepth 100000 in
theorem al_wm_X4_unary : ∀ w ∈ ev_blk (ev_unM al_mX4_unary, 0), w ∈ lw_tbl := by
  show ∀ w ∈ [Jvm.Cond.code al_yX4_unary al_mX4_unary.2.1 al_mX4_unary.2.2.1 al_mX4_unary.2.2.2.1, Jvm.Cond.initialized al_yX4_unary.cls, Jvm.Cond.instanceMethod al_yX4_unary, Jvm.Cond.selects al_yX4_unary.cls al_yX4_unary al_yX4_unary], w ∈ lw_tbl
  exact List.forall_mem_cons.mpr ⟨(al_t6 (List.mem_of_getElem? (i := 211) rfl)), List.forall_mem_cons.mpr ⟨(al_t1 (List.mem_of_getElem? (i := 12) (by decide +kernel))), List.forall_mem_cons.mpr ⟨(al_t6 (List.mem_of_getElem? (i := 210) (by decide +kernel))), List.forall_mem_cons.mpr ⟨(al_s (i := 25) (by decide +kernel)), fun _ h => absurd h List.not_mem_nil⟩⟩⟩⟩
set_option maxRecDepth 100000 in
theorem al_wm_X4_binary : ∀ w ∈ ev_blk (ev_unM al_mX4_binary, 1), w ∈ lw_tbl := by
  show ∀ w ∈ [Jvm.Cond.code al_yX4_binary al_mX4_binary.2.1 al_mX4_binary.2.2.1 al_mX4_binary.2.2.2.1, Jvm.Cond.initialized al_yX4_binary.cls, Jvm.Cond.static al_yX4_binary], w ∈ lw_tbl
  exact List.forall_mem_cons.mpr ⟨(al_t7 (List.mem_of_getElem? (i := 98) rfl)), List.forall_mem_cons.mpr ⟨(al_t1 (List.mem_of_getElem? (i := 12) (by decide +kernel))), List.forall_mem_cons.mpr ⟨(al_t7 (List.mem_of_getElem? (i := 97) (by decide +kernel))), fun _ h => absurd h List.not_mem_nil⟩⟩⟩
set_option maxRecDepth 100000 in
theorem al_wm_X4_expression : ∀ w ∈ ev_blk (ev_unM al_mX4_expression, 0), w ∈ lw_tbl := by
  show ∀ w ∈ [Jvm.Cond.code al_yX4_expression al_mX4_expression.2.1 al_mX4_expression.2.2.1 al_mX4_expression.2.2.2.1, Jvm.Cond.initialized al_yX4_expression.cls, Jvm.Cond.instanceMethod al_yX4_expression, Jvm.Cond.selects al_yX4_expression.cls al_yX4_expression al_yX4_expression], w ∈ lw_tbl
  exact List.forall_mem_cons.mpr ⟨(al_t6 (List.mem_of_getElem? (i := 203) rfl)), List.forall_mem_cons.mpr ⟨(al_t1 (List.mem_of_getElem? (i := 12) (by decide +kernel))), List.forall_mem_cons.mpr ⟨(al_t6 (List.mem_of_getElem? (i := 202) (by decide +kernel))), List.forall_mem_cons.mpr ⟨(al_s (i := 23) (by decide +kernel)), fun _ h => absurd h List.not_mem_nil⟩⟩⟩⟩
set_option maxRecDepth 100000 in
theorem al_wm_X4_operation : ∀ w ∈ ev_blk (ev_unM al_mX4_operation, 0), w ∈ lw_tbl := by
  show ∀ w ∈ [Jvm.Cond.code al_yX4_operation al_mX4_operation.2.1 al_mX4_operation.2.2.1 al_mX4_operation.2.2.2.1, Jvm.Cond.initialized al_yX4_operation.cls, Jvm.Cond.instanceMethod al_yX4_operation, Jvm.Cond.selects al_yX4_operation.cls al_yX4_operation al_yX4_operation], w ∈ lw_tbl
  exact List.forall_mem_cons.mpr ⟨(al_t7 (List.mem_of_getElem? (i := 95) rfl)), List.forall_mem_cons.mpr ⟨(al_t1 (List.mem_of_getElem? (i := 12) (by decide +kernel))), List.forall_mem_cons.mpr ⟨(al_t7 (List.mem_of_getElem? (i := 94) (by decide +kernel))), List.forall_mem_cons.mpr ⟨(al_s (i := 46) (by decide +kernel)), fun _ h => absurd h List.not_mem_nil⟩⟩⟩⟩
set_option maxRecDepth 100000 in
theorem al_wm_X4_operand : ∀ w ∈ ev_blk (ev_unM al_mX4_operand, 0), w ∈ lw_tbl := by
  show ∀ w ∈ [Jvm.Cond.code al_yX4_operand al_mX4_operand.2.1 al_mX4_operand.2.2.1 al_mX4_operand.2.2.2.1, Jvm.Cond.initialized al_yX4_operand.cls, Jvm.Cond.instanceMethod al_yX4_operand, Jvm.Cond.selects al_yX4_operand.cls al_yX4_operand al_yX4_operand], w ∈ lw_tbl
  exact List.forall_mem_cons.mpr ⟨(al_t6 (List.mem_of_getElem? (i := 223) rfl)), List.forall_mem_cons.mpr ⟨(al_t1 (List.mem_of_getElem? (i := 12) (by decide +kernel))), List.forall_mem_cons.mpr ⟨(al_t6 (List.mem_of_getElem? (i := 222) (by decide +kernel))), List.forall_mem_cons.mpr ⟨(al_s (i := 27) (by decide +kernel)), fun _ h => absurd h List.not_mem_nil⟩⟩⟩⟩
set_option maxRecDepth 100000 in
theorem al_wm_X4_table : ∀ w ∈ ev_blk (ev_unM al_mX4_table, 0), w ∈ lw_tbl := by
  show ∀ w ∈ [Jvm.Cond.code al_yX4_table al_mX4_table.2.1 al_mX4_table.2.2.1 al_mX4_table.2.2.2.1, Jvm.Cond.initialized al_yX4_table.cls, Jvm.Cond.instanceMethod al_yX4_table, Jvm.Cond.selects al_yX4_table.cls al_yX4_table al_yX4_table], w ∈ lw_tbl
  exact List.forall_mem_cons.mpr ⟨(al_t7 (List.mem_of_getElem? (i := 23) rfl)), List.forall_mem_cons.mpr ⟨(al_t1 (List.mem_of_getElem? (i := 12) (by decide +kernel))), List.forall_mem_cons.mpr ⟨(al_t7 (List.mem_of_getElem? (i := 22) (by decide +kernel))), List.forall_mem_cons.mpr ⟨(al_s (i := 31) (by decide +kernel)), fun _ h => absurd h List.not_mem_nil⟩⟩⟩⟩
set_option maxRecDepth 100000 in
theorem al_wm_X4_separator : ∀ w ∈ ev_blk (ev_unM al_mX4_separator, 0), w ∈ lw_tbl := by
  show ∀ w ∈ [Jvm.Cond.code al_yX4_separator al_mX4_separator.2.1 al_mX4_separator.2.2.1 al_mX4_separator.2.2.2.1, Jvm.Cond.initialized al_yX4_separator.cls, Jvm.Cond.instanceMethod al_yX4_separator, Jvm.Cond.selects al_yX4_separator.cls al_yX4_separator al_yX4_separator], w ∈ lw_tbl
  exact List.forall_mem_cons.mpr ⟨(al_t7 (List.mem_of_getElem? (i := 39) rfl)), List.forall_mem_cons.mpr ⟨(al_t1 (List.mem_of_getElem? (i := 12) (by decide +kernel))), List.forall_mem_cons.mpr ⟨(al_t7 (List.mem_of_getElem? (i := 38) (by decide +kernel))), List.forall_mem_cons.mpr ⟨(al_s (i := 34) (by decide +kernel)), fun _ h => absurd h List.not_mem_nil⟩⟩⟩⟩
set_option maxRecDepth 100000 in
theorem al_wm_X4_keyedField : ∀ w ∈ ev_blk (ev_unM al_mX4_keyedField, 0), w ∈ lw_tbl := by
  show ∀ w ∈ [Jvm.Cond.code al_yX4_keyedField al_mX4_keyedField.2.1 al_mX4_keyedField.2.2.1 al_mX4_keyedField.2.2.2.1, Jvm.Cond.initialized al_yX4_keyedField.cls, Jvm.Cond.instanceMethod al_yX4_keyedField, Jvm.Cond.selects al_yX4_keyedField.cls al_yX4_keyedField al_yX4_keyedField], w ∈ lw_tbl
  exact List.forall_mem_cons.mpr ⟨(al_t7 (List.mem_of_getElem? (i := 31) rfl)), List.forall_mem_cons.mpr ⟨(al_t1 (List.mem_of_getElem? (i := 12) (by decide +kernel))), List.forall_mem_cons.mpr ⟨(al_t7 (List.mem_of_getElem? (i := 30) (by decide +kernel))), List.forall_mem_cons.mpr ⟨(al_s (i := 32) (by decide +kernel)), fun _ h => absurd h List.not_mem_nil⟩⟩⟩⟩
set_option maxRecDepth 100000 in
theorem al_wm_X4_itemField : ∀ w ∈ ev_blk (ev_unM al_mX4_itemField, 0), w ∈ lw_tbl := by
  show ∀ w ∈ [Jvm.Cond.code al_yX4_itemField al_mX4_itemField.2.1 al_mX4_itemField.2.2.1 al_mX4_itemField.2.2.2.1, Jvm.Cond.initialized al_yX4_itemField.cls, Jvm.Cond.instanceMethod al_yX4_itemField, Jvm.Cond.selects al_yX4_itemField.cls al_yX4_itemField al_yX4_itemField], w ∈ lw_tbl
  exact List.forall_mem_cons.mpr ⟨(al_t7 (List.mem_of_getElem? (i := 43) rfl)), List.forall_mem_cons.mpr ⟨(al_t1 (List.mem_of_getElem? (i := 12) (by decide +kernel))), List.forall_mem_cons.mpr ⟨(al_t7 (List.mem_of_getElem? (i := 42) (by decide +kernel))), List.forall_mem_cons.mpr ⟨(al_s (i := 35) (by decide +kernel)), fun _ h => absurd h List.not_mem_nil⟩⟩⟩⟩
set_option maxRecDepth 100000 in
theorem al_wm_X4_body : ∀ w ∈ ev_blk (ev_unM al_mX4_body, 0), w ∈ lw_tbl := by
  show ∀ w ∈ [Jvm.Cond.code al_yX4_body al_mX4_body.2.1 al_mX4_body.2.2.1 al_mX4_body.2.2.2.1, Jvm.Cond.initialized al_yX4_body.cls, Jvm.Cond.instanceMethod al_yX4_body, Jvm.Cond.selects al_yX4_body.cls al_yX4_body al_yX4_body], w ∈ lw_tbl
  exact List.forall_mem_cons.mpr ⟨(al_t6 (List.mem_of_getElem? (i := 235) rfl)), List.forall_mem_cons.mpr ⟨(al_t1 (List.mem_of_getElem? (i := 12) (by decide +kernel))), List.forall_mem_cons.mpr ⟨(al_t6 (List.mem_of_getElem? (i := 234) (by decide +kernel))), List.forall_mem_cons.mpr ⟨(al_s (i := 28) (by decide +kernel)), fun _ h => absurd h List.not_mem_nil⟩⟩⟩⟩
set_option maxRecDepth 100000 in
theorem al_wm_X4_parameters : ∀ w ∈ ev_blk (ev_unM al_mX4_parameters, 0), w ∈ lw_tbl := by
  show ∀ w ∈ [Jvm.Cond.code al_yX4_parameters al_mX4_parameters.2.1 al_mX4_parameters.2.2.1 al_mX4_parameters.2.2.2.1, Jvm.Cond.initialized al_yX4_parameters.cls, Jvm.Cond.instanceMethod al_yX4_parameters, Jvm.Cond.selects al_yX4_parameters.cls al_yX4_parameters al_yX4_parameters], w ∈ lw_tbl
  exact List.forall_mem_cons.mpr ⟨(al_t7 (List.mem_of_getElem? (i := 3) rfl)), List.forall_mem_cons.mpr ⟨(al_t1 (List.mem_of_getElem? (i := 12) (by decide +kernel))), List.forall_mem_cons.mpr ⟨(al_t7 (List.mem_of_getElem? (i := 2) (by decide +kernel))), List.forall_mem_cons.mpr ⟨(al_s (i := 29) (by decide +kernel)), fun _ h => absurd h List.not_mem_nil⟩⟩⟩⟩
set_option maxRecDepth 100000 in
theorem al_wm_X6_addWhole : ∀ w ∈ ev_blk (ev_unM al_mX6_addWhole, 0), w ∈ lw_tbl := by
  show ∀ w ∈ [Jvm.Cond.code al_yX6_addWhole al_mX6_addWhole.2.1 al_mX6_addWhole.2.2.1 al_mX6_addWhole.2.2.2.1, Jvm.Cond.initialized al_yX6_addWhole.cls, Jvm.Cond.instanceMethod al_yX6_addWhole, Jvm.Cond.selects al_yX6_addWhole.cls al_yX6_addWhole al_yX6_addWhole], w ∈ lw_tbl
  exact List.forall_mem_cons.mpr ⟨(al_t6 (List.mem_of_getElem? (i := 227) rfl)), List.forall_mem_cons.mpr ⟨(al_t1 (List.mem_of_getElem? (i := 8) (by decide +kernel))), List.forall_mem_cons.mpr ⟨(al_t6 (List.mem_of_getElem? (i := 225) (by decide +kernel))), List.forall_mem_cons.mpr ⟨(al_t6 (List.mem_of_getElem? (i := 226) (by decide +kernel))), fun _ h => absurd h List.not_mem_nil⟩⟩⟩⟩
set_option maxRecDepth 100000 in
theorem al_wm_X6_wantOfLast : ∀ w ∈ ev_blk (ev_unM al_mX6_wantOfLast, 0), w ∈ lw_tbl := by
  show ∀ w ∈ [Jvm.Cond.code al_yX6_wantOfLast al_mX6_wantOfLast.2.1 al_mX6_wantOfLast.2.2.1 al_mX6_wantOfLast.2.2.2.1, Jvm.Cond.initialized al_yX6_wantOfLast.cls, Jvm.Cond.instanceMethod al_yX6_wantOfLast, Jvm.Cond.selects al_yX6_wantOfLast.cls al_yX6_wantOfLast al_yX6_wantOfLast], w ∈ lw_tbl
  exact List.forall_mem_cons.mpr ⟨(al_t7 (List.mem_of_getElem? (i := 47) rfl)), List.forall_mem_cons.mpr ⟨(al_t1 (List.mem_of_getElem? (i := 8) (by decide +kernel))), List.forall_mem_cons.mpr ⟨(al_t7 (List.mem_of_getElem? (i := 45) (by decide +kernel))), List.forall_mem_cons.mpr ⟨(al_t7 (List.mem_of_getElem? (i := 46) (by decide +kernel))), fun _ h => absurd h List.not_mem_nil⟩⟩⟩⟩
set_option maxRecDepth 100000 in
theorem al_wm_X6_land : ∀ w ∈ ev_blk (ev_unM al_mX6_land, 0), w ∈ lw_tbl := by
  show ∀ w ∈ [Jvm.Cond.code al_yX6_land al_mX6_land.2.1 al_mX6_land.2.2.1 al_mX6_land.2.2.2.1, Jvm.Cond.initialized al_yX6_land.cls, Jvm.Cond.instanceMethod al_yX6_land, Jvm.Cond.selects al_yX6_land.cls al_yX6_land al_yX6_land], w ∈ lw_tbl
  exact List.forall_mem_cons.mpr ⟨(al_t7 (List.mem_of_getElem? (i := 19) rfl)), List.forall_mem_cons.mpr ⟨(al_t1 (List.mem_of_getElem? (i := 8) (by decide +kernel))), List.forall_mem_cons.mpr ⟨(al_t7 (List.mem_of_getElem? (i := 17) (by decide +kernel))), List.forall_mem_cons.mpr ⟨(al_t7 (List.mem_of_getElem? (i := 18) (by decide +kernel))), fun _ h => absurd h List.not_mem_nil⟩⟩⟩⟩
set_option maxRecDepth 100000 in
theorem al_wm_X7_leave : ∀ w ∈ ev_blk (ev_unM al_mX7_leave, 0), w ∈ lw_tbl := by
  show ∀ w ∈ [Jvm.Cond.code al_yX7_leave al_mX7_leave.2.1 al_mX7_leave.2.2.1 al_mX7_leave.2.2.2.1, Jvm.Cond.initialized al_yX7_leave.cls, Jvm.Cond.instanceMethod al_yX7_leave, Jvm.Cond.selects al_yX7_leave.cls al_yX7_leave al_yX7_leave], w ∈ lw_tbl
  exact List.forall_mem_cons.mpr ⟨(al_t7 (List.mem_of_getElem? (i := 15) rfl)), List.forall_mem_cons.mpr ⟨(al_t1 (List.mem_of_getElem? (i := 14) (by decide +kernel))), List.forall_mem_cons.mpr ⟨(al_t7 (List.mem_of_getElem? (i := 13) (by decide +kernel))), List.forall_mem_cons.mpr ⟨(al_t7 (List.mem_of_getElem? (i := 14) (by decide +kernel))), fun _ h => absurd h List.not_mem_nil⟩⟩⟩⟩
set_option maxRecDepth 100000 in
theorem al_wm_X7_current : ∀ w ∈ ev_blk (ev_unM al_mX7_current, 0), w ∈ lw_tbl := by
  show ∀ w ∈ [Jvm.Cond.code al_yX7_current al_mX7_current.2.1 al_mX7_current.2.2.1 al_mX7_current.2.2.2.1, Jvm.Cond.initialized al_yX7_current.cls, Jvm.Cond.instanceMethod al_yX7_current, Jvm.Cond.selects al_yX7_current.cls al_yX7_current al_yX7_current], w ∈ lw_tbl
  exact List.forall_mem_cons.mpr ⟨(al_t6 (List.mem_of_getElem? (i := 231) rfl)), List.forall_mem_cons.mpr ⟨(al_t1 (List.mem_of_getElem? (i := 14) (by decide +kernel))), List.forall_mem_cons.mpr ⟨(al_t6 (List.mem_of_getElem? (i := 229) (by decide +kernel))), List.forall_mem_cons.mpr ⟨(al_t6 (List.mem_of_getElem? (i := 230) (by decide +kernel))), fun _ h => absurd h List.not_mem_nil⟩⟩⟩⟩
set_option maxRecDepth 100000 in
theorem al_wm_X7_setHeight : ∀ w ∈ ev_blk (ev_unM al_mX7_setHeight, 0), w ∈ lw_tbl := by
  show ∀ w ∈ [Jvm.Cond.code al_yX7_setHeight al_mX7_setHeight.2.1 al_mX7_setHeight.2.2.1 al_mX7_setHeight.2.2.2.1, Jvm.Cond.initialized al_yX7_setHeight.cls, Jvm.Cond.instanceMethod al_yX7_setHeight, Jvm.Cond.selects al_yX7_setHeight.cls al_yX7_setHeight al_yX7_setHeight], w ∈ lw_tbl
  exact List.forall_mem_cons.mpr ⟨(al_t6 (List.mem_of_getElem? (i := 187) rfl)), List.forall_mem_cons.mpr ⟨(al_t1 (List.mem_of_getElem? (i := 14) (by decide +kernel))), List.forall_mem_cons.mpr ⟨(al_t6 (List.mem_of_getElem? (i := 185) (by decide +kernel))), List.forall_mem_cons.mpr ⟨(al_t6 (List.mem_of_getElem? (i := 186) (by decide +kernel))), fun _ h => absurd h List.not_mem_nil⟩⟩⟩⟩
set_option maxRecDepth 100000 in
theorem al_wm_X7_rise : ∀ w ∈ ev_blk (ev_unM al_mX7_rise, 0), w ∈ lw_tbl := by
  show ∀ w ∈ [Jvm.Cond.code al_yX7_rise al_mX7_rise.2.1 al_mX7_rise.2.2.1 al_mX7_rise.2.2.2.1, Jvm.Cond.initialized al_yX7_rise.cls, Jvm.Cond.instanceMethod al_yX7_rise, Jvm.Cond.selects al_yX7_rise.cls al_yX7_rise al_yX7_rise], w ∈ lw_tbl
  exact List.forall_mem_cons.mpr ⟨(al_t6 (List.mem_of_getElem? (i := 219) rfl)), List.forall_mem_cons.mpr ⟨(al_t1 (List.mem_of_getElem? (i := 14) (by decide +kernel))), List.forall_mem_cons.mpr ⟨(al_t6 (List.mem_of_getElem? (i := 217) (by decide +kernel))), List.forall_mem_cons.mpr ⟨(al_t6 (List.mem_of_getElem? (i := 218) (by decide +kernel))), fun _ h => absurd h List.not_mem_nil⟩⟩⟩⟩
set_option maxRecDepth 100000 in
theorem al_wm_X7_breaks : ∀ w ∈ ev_blk (ev_unM al_mX7_breaks, 0), w ∈ lw_tbl := by
  show ∀ w ∈ [Jvm.Cond.code al_yX7_breaks al_mX7_breaks.2.1 al_mX7_breaks.2.2.1 al_mX7_breaks.2.2.2.1, Jvm.Cond.initialized al_yX7_breaks.cls, Jvm.Cond.instanceMethod al_yX7_breaks, Jvm.Cond.selects al_yX7_breaks.cls al_yX7_breaks al_yX7_breaks], w ∈ lw_tbl
  exact List.forall_mem_cons.mpr ⟨(al_t6 (List.mem_of_getElem? (i := 199) rfl)), List.forall_mem_cons.mpr ⟨(al_t1 (List.mem_of_getElem? (i := 14) (by decide +kernel))), List.forall_mem_cons.mpr ⟨(al_t6 (List.mem_of_getElem? (i := 197) (by decide +kernel))), List.forall_mem_cons.mpr ⟨(al_t6 (List.mem_of_getElem? (i := 198) (by decide +kernel))), fun _ h => absurd h List.not_mem_nil⟩⟩⟩⟩
set_option maxRecDepth 100000 in
theorem al_wm_X7_setBreaks : ∀ w ∈ ev_blk (ev_unM al_mX7_setBreaks, 0), w ∈ lw_tbl := by
  show ∀ w ∈ [Jvm.Cond.code al_yX7_setBreaks al_mX7_setBreaks.2.1 al_mX7_setBreaks.2.2.1 al_mX7_setBreaks.2.2.2.1, Jvm.Cond.initialized al_yX7_setBreaks.cls, Jvm.Cond.instanceMethod al_yX7_setBreaks, Jvm.Cond.selects al_yX7_setBreaks.cls al_yX7_setBreaks al_yX7_setBreaks], w ∈ lw_tbl
  exact List.forall_mem_cons.mpr ⟨(al_t7 (List.mem_of_getElem? (i := 102) rfl)), List.forall_mem_cons.mpr ⟨(al_t1 (List.mem_of_getElem? (i := 14) (by decide +kernel))), List.forall_mem_cons.mpr ⟨(al_t7 (List.mem_of_getElem? (i := 100) (by decide +kernel))), List.forall_mem_cons.mpr ⟨(al_t7 (List.mem_of_getElem? (i := 101) (by decide +kernel))), fun _ h => absurd h List.not_mem_nil⟩⟩⟩⟩
set_option maxRecDepth 100000 in
theorem al_wm_X7_hide : ∀ w ∈ ev_blk (ev_unM al_mX7_hide, 0), w ∈ lw_tbl := by
  show ∀ w ∈ [Jvm.Cond.code al_yX7_hide al_mX7_hide.2.1 al_mX7_hide.2.2.1 al_mX7_hide.2.2.2.1, Jvm.Cond.initialized al_yX7_hide.cls, Jvm.Cond.instanceMethod al_yX7_hide, Jvm.Cond.selects al_yX7_hide.cls al_yX7_hide al_yX7_hide], w ∈ lw_tbl
  exact List.forall_mem_cons.mpr ⟨(al_t6 (List.mem_of_getElem? (i := 239) rfl)), List.forall_mem_cons.mpr ⟨(al_t1 (List.mem_of_getElem? (i := 14) (by decide +kernel))), List.forall_mem_cons.mpr ⟨(al_t6 (List.mem_of_getElem? (i := 237) (by decide +kernel))), List.forall_mem_cons.mpr ⟨(al_t6 (List.mem_of_getElem? (i := 238) (by decide +kernel))), fun _ h => absurd h List.not_mem_nil⟩⟩⟩⟩
set_option maxRecDepth 100000 in
theorem al_wm_X7_reveal : ∀ w ∈ ev_blk (ev_unM al_mX7_reveal, 0), w ∈ lw_tbl := by
  show ∀ w ∈ [Jvm.Cond.code al_yX7_reveal al_mX7_reveal.2.1 al_mX7_reveal.2.2.1 al_mX7_reveal.2.2.2.1, Jvm.Cond.initialized al_yX7_reveal.cls, Jvm.Cond.instanceMethod al_yX7_reveal, Jvm.Cond.selects al_yX7_reveal.cls al_yX7_reveal al_yX7_reveal], w ∈ lw_tbl
  exact List.forall_mem_cons.mpr ⟨(al_t7 (List.mem_of_getElem? (i := 11) rfl)), List.forall_mem_cons.mpr ⟨(al_t1 (List.mem_of_getElem? (i := 14) (by decide +kernel))), List.forall_mem_cons.mpr ⟨(al_t7 (List.mem_of_getElem? (i := 9) (by decide +kernel))), List.forall_mem_cons.mpr ⟨(al_t7 (List.mem_of_getElem? (i := 10) (by decide +kernel))), fun _ h => absurd h List.not_mem_nil⟩⟩⟩⟩
set_option maxRecDepth 100000 in
theorem al_wm_X7_close : ∀ w ∈ ev_blk (ev_unM al_mX7_close, 0), w ∈ lw_tbl := by
  show ∀ w ∈ [Jvm.Cond.code al_yX7_close al_mX7_close.2.1 al_mX7_close.2.2.1 al_mX7_close.2.2.2.1, Jvm.Cond.initialized al_yX7_close.cls, Jvm.Cond.instanceMethod al_yX7_close, Jvm.Cond.selects al_yX7_close.cls al_yX7_close al_yX7_close], w ∈ lw_tbl
  exact List.forall_mem_cons.mpr ⟨(al_t6 (List.mem_of_getElem? (i := 179) rfl)), List.forall_mem_cons.mpr ⟨(al_t1 (List.mem_of_getElem? (i := 14) (by decide +kernel))), List.forall_mem_cons.mpr ⟨(al_t6 (List.mem_of_getElem? (i := 177) (by decide +kernel))), List.forall_mem_cons.mpr ⟨(al_t6 (List.mem_of_getElem? (i := 178) (by decide +kernel))), fun _ h => absurd h List.not_mem_nil⟩⟩⟩⟩
set_option maxRecDepth 100000 in
theorem al_wm_X7_resolve : ∀ w ∈ ev_blk (ev_unM al_mX7_resolve, 0), w ∈ lw_tbl := by
  show ∀ w ∈ [Jvm.Cond.code al_yX7_resolve al_mX7_resolve.2.1 al_mX7_resolve.2.2.1 al_mX7_resolve.2.2.2.1, Jvm.Cond.initialized al_yX7_resolve.cls, Jvm.Cond.instanceMethod al_yX7_resolve, Jvm.Cond.selects al_yX7_resolve.cls al_yX7_resolve al_yX7_resolve], w ∈ lw_tbl
  exact List.forall_mem_cons.mpr ⟨(al_t7 (List.mem_of_getElem? (i := 59) rfl)), List.forall_mem_cons.mpr ⟨(al_t1 (List.mem_of_getElem? (i := 14) (by decide +kernel))), List.forall_mem_cons.mpr ⟨(al_t7 (List.mem_of_getElem? (i := 57) (by decide +kernel))), List.forall_mem_cons.mpr ⟨(al_t7 (List.mem_of_getElem? (i := 58) (by decide +kernel))), fun _ h => absurd h List.not_mem_nil⟩⟩⟩⟩
set_option maxRecDepth 100000 in
theorem al_wm_X7_slotOf : ∀ w ∈ ev_blk (ev_unM al_mX7_slotOf, 0), w ∈ lw_tbl := by
  show ∀ w ∈ [Jvm.Cond.code al_yX7_slotOf al_mX7_slotOf.2.1 al_mX7_slotOf.2.2.1 al_mX7_slotOf.2.2.2.1, Jvm.Cond.initialized al_yX7_slotOf.cls, Jvm.Cond.instanceMethod al_yX7_slotOf, Jvm.Cond.selects al_yX7_slotOf.cls al_yX7_slotOf al_yX7_slotOf], w ∈ lw_tbl
  exact List.forall_mem_cons.mpr ⟨(al_t7 (List.mem_of_getElem? (i := 63) rfl)), List.forall_mem_cons.mpr ⟨(al_t1 (List.mem_of_getElem? (i := 14) (by decide +kernel))), List.forall_mem_cons.mpr ⟨(al_t7 (List.mem_of_getElem? (i := 62) (by decide +kernel))), List.forall_mem_cons.mpr ⟨(al_s (i := 38) (by decide +kernel)), fun _ h => absurd h List.not_mem_nil⟩⟩⟩⟩
set_option maxRecDepth 100000 in
theorem al_wm_X7_capturedOf : ∀ w ∈ ev_blk (ev_unM al_mX7_capturedOf, 0), w ∈ lw_tbl := by
  show ∀ w ∈ [Jvm.Cond.code al_yX7_capturedOf al_mX7_capturedOf.2.1 al_mX7_capturedOf.2.2.1 al_mX7_capturedOf.2.2.2.1, Jvm.Cond.initialized al_yX7_capturedOf.cls, Jvm.Cond.instanceMethod al_yX7_capturedOf, Jvm.Cond.selects al_yX7_capturedOf.cls al_yX7_capturedOf al_yX7_capturedOf], w ∈ lw_tbl
  exact List.forall_mem_cons.mpr ⟨(al_t7 (List.mem_of_getElem? (i := 67) rfl)), List.forall_mem_cons.mpr ⟨(al_t1 (List.mem_of_getElem? (i := 14) (by decide +kernel))), List.forall_mem_cons.mpr ⟨(al_t7 (List.mem_of_getElem? (i := 66) (by decide +kernel))), List.forall_mem_cons.mpr ⟨(al_s (i := 39) (by decide +kernel)), fun _ h => absurd h List.not_mem_nil⟩⟩⟩⟩
set_option maxRecDepth 100000 in
theorem al_wm_X8_lengthOf : ∀ w ∈ ev_blk (ev_unM al_mX8_lengthOf, 0), w ∈ lw_tbl := by
  show ∀ w ∈ [Jvm.Cond.code al_yX8_lengthOf al_mX8_lengthOf.2.1 al_mX8_lengthOf.2.2.1 al_mX8_lengthOf.2.2.2.1, Jvm.Cond.initialized al_yX8_lengthOf.cls, Jvm.Cond.instanceMethod al_yX8_lengthOf, Jvm.Cond.selects al_yX8_lengthOf.cls al_yX8_lengthOf al_yX8_lengthOf], w ∈ lw_tbl
  exact List.forall_mem_cons.mpr ⟨(al_t9 (List.mem_of_getElem? (i := 215) rfl)), List.forall_mem_cons.mpr ⟨(al_t1 (List.mem_of_getElem? (i := 2) (by decide +kernel))), List.forall_mem_cons.mpr ⟨(al_t9 (List.mem_of_getElem? (i := 213) (by decide +kernel))), List.forall_mem_cons.mpr ⟨(al_t9 (List.mem_of_getElem? (i := 214) (by decide +kernel))), fun _ h => absurd h List.not_mem_nil⟩⟩⟩⟩
set_option maxRecDepth 100000 in
theorem al_wm_X8_byteOf : ∀ w ∈ ev_blk (ev_unM al_mX8_byteOf, 0), w ∈ lw_tbl := by
  show ∀ w ∈ [Jvm.Cond.code al_yX8_byteOf al_mX8_byteOf.2.1 al_mX8_byteOf.2.2.1 al_mX8_byteOf.2.2.2.1, Jvm.Cond.initialized al_yX8_byteOf.cls, Jvm.Cond.instanceMethod al_yX8_byteOf, Jvm.Cond.selects al_yX8_byteOf.cls al_yX8_byteOf al_yX8_byteOf], w ∈ lw_tbl
  exact List.forall_mem_cons.mpr ⟨(al_t9 (List.mem_of_getElem? (i := 31) rfl)), List.forall_mem_cons.mpr ⟨(al_t1 (List.mem_of_getElem? (i := 2) (by decide +kernel))), List.forall_mem_cons.mpr ⟨(al_t9 (List.mem_of_getElem? (i := 29) (by decide +kernel))), List.forall_mem_cons.mpr ⟨(al_t9 (List.mem_of_getElem? (i := 30) (by decide +kernel))), fun _ h => absurd h List.not_mem_nil⟩⟩⟩⟩
set_option maxRecDepth 100000 in
theorem al_wm_X8_has : ∀ w ∈ ev_blk (ev_unM al_mX8_has, 0), w ∈ lw_tbl := by
  show ∀ w ∈ [Jvm.Cond.code al_yX8_has al_mX8_has.2.1 al_mX8_has.2.2.1 al_mX8_has.2.2.2.1, Jvm.Cond.initialized al_yX8_has.cls, Jvm.Cond.instanceMethod al_yX8_has, Jvm.Cond.selects al_yX8_has.cls al_yX8_has al_yX8_has], w ∈ lw_tbl
  exact List.forall_mem_cons.mpr ⟨(al_t9 (List.mem_of_getElem? (i := 27) rfl)), List.forall_mem_cons.mpr ⟨(al_t1 (List.mem_of_getElem? (i := 2) (by decide +kernel))), List.forall_mem_cons.mpr ⟨(al_t9 (List.mem_of_getElem? (i := 25) (by decide +kernel))), List.forall_mem_cons.mpr ⟨(al_t9 (List.mem_of_getElem? (i := 26) (by decide +kernel))), fun _ h => absurd h List.not_mem_nil⟩⟩⟩⟩
set_option maxRecDepth 100000 in
theorem al_wm_X8_compare : ∀ w ∈ ev_blk (ev_unM al_mX8_compare, 0), w ∈ lw_tbl := by
  show ∀ w ∈ [Jvm.Cond.code al_yX8_compare al_mX8_compare.2.1 al_mX8_compare.2.2.1 al_mX8_compare.2.2.2.1, Jvm.Cond.initialized al_yX8_compare.cls, Jvm.Cond.instanceMethod al_yX8_compare, Jvm.Cond.selects al_yX8_compare.cls al_yX8_compare al_yX8_compare], w ∈ lw_tbl
  exact List.forall_mem_cons.mpr ⟨(al_t11 (List.mem_of_getElem? (i := 105) rfl)), List.forall_mem_cons.mpr ⟨(al_t1 (List.mem_of_getElem? (i := 2) (by decide +kernel))), List.forall_mem_cons.mpr ⟨(al_t11 (List.mem_of_getElem? (i := 103) (by decide +kernel))), List.forall_mem_cons.mpr ⟨(al_t11 (List.mem_of_getElem? (i := 104) (by decide +kernel))), fun _ h => absurd h List.not_mem_nil⟩⟩⟩⟩
set_option maxRecDepth 100000 in
theorem al_wm_X8_rowLength : ∀ w ∈ ev_blk (ev_unM al_mX8_rowLength, 0), w ∈ lw_tbl := by
  show ∀ w ∈ [Jvm.Cond.code al_yX8_rowLength al_mX8_rowLength.2.1 al_mX8_rowLength.2.2.1 al_mX8_rowLength.2.2.2.1, Jvm.Cond.initialized al_yX8_rowLength.cls, Jvm.Cond.instanceMethod al_yX8_rowLength, Jvm.Cond.selects al_yX8_rowLength.cls al_yX8_rowLength al_yX8_rowLength], w ∈ lw_tbl
  exact List.forall_mem_cons.mpr ⟨(al_t6 (List.mem_of_getElem? (i := 134) rfl)), List.forall_mem_cons.mpr ⟨(al_t1 (List.mem_of_getElem? (i := 2) (by decide +kernel))), List.forall_mem_cons.mpr ⟨(al_t6 (List.mem_of_getElem? (i := 132) (by decide +kernel))), List.forall_mem_cons.mpr ⟨(al_t6 (List.mem_of_getElem? (i := 133) (by decide +kernel))), fun _ h => absurd h List.not_mem_nil⟩⟩⟩⟩
set_option maxRecDepth 100000 in
theorem al_wm_X8_rowByte : ∀ w ∈ ev_blk (ev_unM al_mX8_rowByte, 0), w ∈ lw_tbl := by
  show ∀ w ∈ [Jvm.Cond.code al_yX8_rowByte al_mX8_rowByte.2.1 al_mX8_rowByte.2.2.1 al_mX8_rowByte.2.2.2.1, Jvm.Cond.initialized al_yX8_rowByte.cls, Jvm.Cond.instanceMethod al_yX8_rowByte, Jvm.Cond.selects al_yX8_rowByte.cls al_yX8_rowByte al_yX8_rowByte], w ∈ lw_tbl
  exact List.forall_mem_cons.mpr ⟨(al_t9 (List.mem_of_getElem? (i := 193) rfl)), List.forall_mem_cons.mpr ⟨(al_t1 (List.mem_of_getElem? (i := 2) (by decide +kernel))), List.forall_mem_cons.mpr ⟨(al_t9 (List.mem_of_getElem? (i := 191) (by decide +kernel))), List.forall_mem_cons.mpr ⟨(al_t9 (List.mem_of_getElem? (i := 192) (by decide +kernel))), fun _ h => absurd h List.not_mem_nil⟩⟩⟩⟩
set_option maxRecDepth 100000 in
theorem al_wm_X8_putPiece : ∀ w ∈ ev_blk (ev_unM al_mX8_putPiece, 0), w ∈ lw_tbl := by
  show ∀ w ∈ [Jvm.Cond.code al_yX8_putPiece al_mX8_putPiece.2.1 al_mX8_putPiece.2.2.1 al_mX8_putPiece.2.2.2.1, Jvm.Cond.initialized al_yX8_putPiece.cls, Jvm.Cond.instanceMethod al_yX8_putPiece, Jvm.Cond.selects al_yX8_putPiece.cls al_yX8_putPiece al_yX8_putPiece], w ∈ lw_tbl
  exact List.forall_mem_cons.mpr ⟨(al_t9 (List.mem_of_getElem? (i := 180) rfl)), List.forall_mem_cons.mpr ⟨(al_t1 (List.mem_of_getElem? (i := 2) (by decide +kernel))), List.forall_mem_cons.mpr ⟨(al_t9 (List.mem_of_getElem? (i := 178) (by decide +kernel))), List.forall_mem_cons.mpr ⟨(al_t9 (List.mem_of_getElem? (i := 179) (by decide +kernel))), fun _ h => absurd h List.not_mem_nil⟩⟩⟩⟩
set_option maxRecDepth 100000 in
theorem al_wm_X8_putString : ∀ w ∈ ev_blk (ev_unM al_mX8_putString, 0), w ∈ lw_tbl := by
  show ∀ w ∈ [Jvm.Cond.code al_yX8_putString al_mX8_putString.2.1 al_mX8_putString.2.2.1 al_mX8_putString.2.2.2.1, Jvm.Cond.initialized al_yX8_putString.cls, Jvm.Cond.instanceMethod al_yX8_putString, Jvm.Cond.selects al_yX8_putString.cls al_yX8_putString al_yX8_putString], w ∈ lw_tbl
  exact List.forall_mem_cons.mpr ⟨(al_t9 (List.mem_of_getElem? (i := 176) rfl)), List.forall_mem_cons.mpr ⟨(al_t1 (List.mem_of_getElem? (i := 2) (by decide +kernel))), List.forall_mem_cons.mpr ⟨(al_t9 (List.mem_of_getElem? (i := 174) (by decide +kernel))), List.forall_mem_cons.mpr ⟨(al_t9 (List.mem_of_getElem? (i := 175) (by decide +kernel))), fun _ h => absurd h List.not_mem_nil⟩⟩⟩⟩
set_option maxRecDepth 100000 in
theorem al_wm_X8_putWhole : ∀ w ∈ ev_blk (ev_unM al_mX8_putWhole, 0), w ∈ lw_tbl := by
  show ∀ w ∈ [Jvm.Cond.code al_yX8_putWhole al_mX8_putWhole.2.1 al_mX8_putWhole.2.2.1 al_mX8_putWhole.2.2.2.1, Jvm.Cond.initialized al_yX8_putWhole.cls, Jvm.Cond.instanceMethod al_yX8_putWhole, Jvm.Cond.selects al_yX8_putWhole.cls al_yX8_putWhole al_yX8_putWhole], w ∈ lw_tbl
  exact List.forall_mem_cons.mpr ⟨(al_t8 (List.mem_of_getElem? (i := 132) rfl)), List.forall_mem_cons.mpr ⟨(al_t1 (List.mem_of_getElem? (i := 2) (by decide +kernel))), List.forall_mem_cons.mpr ⟨(al_t8 (List.mem_of_getElem? (i := 130) (by decide +kernel))), List.forall_mem_cons.mpr ⟨(al_t8 (List.mem_of_getElem? (i := 131) (by decide +kernel))), fun _ h => absurd h List.not_mem_nil⟩⟩⟩⟩
set_option maxRecDepth 100000 in
theorem al_wm_X8_keepTextual : ∀ w ∈ ev_blk (ev_unM al_mX8_keepTextual, 0), w ∈ lw_tbl := by
  show ∀ w ∈ [Jvm.Cond.code al_yX8_keepTextual al_mX8_keepTextual.2.1 al_mX8_keepTextual.2.2.1 al_mX8_keepTextual.2.2.2.1, Jvm.Cond.initialized al_yX8_keepTextual.cls, Jvm.Cond.instanceMethod al_yX8_keepTextual, Jvm.Cond.selects al_yX8_keepTextual.cls al_yX8_keepTextual al_yX8_keepTextual], w ∈ lw_tbl
  exact List.forall_mem_cons.mpr ⟨(al_t6 (List.mem_of_getElem? (i := 113) rfl)), List.forall_mem_cons.mpr ⟨(al_t1 (List.mem_of_getElem? (i := 2) (by decide +kernel))), List.forall_mem_cons.mpr ⟨(al_t6 (List.mem_of_getElem? (i := 111) (by decide +kernel))), List.forall_mem_cons.mpr ⟨(al_t6 (List.mem_of_getElem? (i := 112) (by decide +kernel))), fun _ h => absurd h List.not_mem_nil⟩⟩⟩⟩
set_option maxRecDepth 100000 in
theorem al_wm_X8_wordOfRow : ∀ w ∈ ev_blk (ev_unM al_mX8_wordOfRow, 0), w ∈ lw_tbl := by
  show ∀ w ∈ [Jvm.Cond.code al_yX8_wordOfRow al_mX8_wordOfRow.2.1 al_mX8_wordOfRow.2.2.1 al_mX8_wordOfRow.2.2.2.1, Jvm.Cond.initialized al_yX8_wordOfRow.cls, Jvm.Cond.instanceMethod al_yX8_wordOfRow, Jvm.Cond.selects al_yX8_wordOfRow.cls al_yX8_wordOfRow al_yX8_wordOfRow], w ∈ lw_tbl
  exact List.forall_mem_cons.mpr ⟨(al_t6 (List.mem_of_getElem? (i := 109) rfl)), List.forall_mem_cons.mpr ⟨(al_t1 (List.mem_of_getElem? (i := 2) (by decide +kernel))), List.forall_mem_cons.mpr ⟨(al_t6 (List.mem_of_getElem? (i := 107) (by decide +kernel))), List.forall_mem_cons.mpr ⟨(al_t6 (List.mem_of_getElem? (i := 108) (by decide +kernel))), fun _ h => absurd h List.not_mem_nil⟩⟩⟩⟩
set_option maxRecDepth 100000 in
theorem al_wm_X8_make : ∀ w ∈ ev_blk (ev_unM al_mX8_make, 0), w ∈ lw_tbl := by
  show ∀ w ∈ [Jvm.Cond.code al_yX8_make al_mX8_make.2.1 al_mX8_make.2.2.1 al_mX8_make.2.2.2.1, Jvm.Cond.initialized al_yX8_make.cls, Jvm.Cond.instanceMethod al_yX8_make, Jvm.Cond.selects al_yX8_make.cls al_yX8_make al_yX8_make], w ∈ lw_tbl
  exact List.forall_mem_cons.mpr ⟨(al_t9 (List.mem_of_getElem? (i := 122) rfl)), List.forall_mem_cons.mpr ⟨(al_t1 (List.mem_of_getElem? (i := 2) (by decide +kernel))), List.forall_mem_cons.mpr ⟨(al_t9 (List.mem_of_getElem? (i := 120) (by decide +kernel))), List.forall_mem_cons.mpr ⟨(al_t9 (List.mem_of_getElem? (i := 121) (by decide +kernel))), fun _ h => absurd h List.not_mem_nil⟩⟩⟩⟩
set_option maxRecDepth 100000 in
theorem al_wm_X10_stop : ∀ w ∈ ev_blk (ev_unM al_mX10_stop, 0), w ∈ lw_tbl := by
  show ∀ w ∈ [Jvm.Cond.code al_yX10_stop al_mX10_stop.2.1 al_mX10_stop.2.2.1 al_mX10_stop.2.2.2.1, Jvm.Cond.initialized al_yX10_stop.cls, Jvm.Cond.instanceMethod al_yX10_stop, Jvm.Cond.selects al_yX10_stop.cls al_yX10_stop al_yX10_stop], w ∈ lw_tbl
  exact List.forall_mem_cons.mpr ⟨(al_t6 (List.mem_of_getElem? (i := 81) rfl)), List.forall_mem_cons.mpr ⟨(al_t1 (List.mem_of_getElem? (i := 13) (by decide +kernel))), List.forall_mem_cons.mpr ⟨(al_t6 (List.mem_of_getElem? (i := 79) (by decide +kernel))), List.forall_mem_cons.mpr ⟨(al_t6 (List.mem_of_getElem? (i := 80) (by decide +kernel))), fun _ h => absurd h List.not_mem_nil⟩⟩⟩⟩
set_option maxRecDepth 100000 in
theorem al_wm_X10_assignFollows : ∀ w ∈ ev_blk (ev_unM al_mX10_assignFollows, 0), w ∈ lw_tbl := by
  show ∀ w ∈ [Jvm.Cond.code al_yX10_assignFollows al_mX10_assignFollows.2.1 al_mX10_assignFollows.2.2.1 al_mX10_assignFollows.2.2.2.1, Jvm.Cond.initialized al_yX10_assignFollows.cls, Jvm.Cond.instanceMethod al_yX10_assignFollows, Jvm.Cond.selects al_yX10_assignFollows.cls al_yX10_assignFollows al_yX10_assignFollows], w ∈ lw_tbl
  exact List.forall_mem_cons.mpr ⟨(al_t7 (List.mem_of_getElem? (i := 27) rfl)), List.forall_mem_cons.mpr ⟨(al_t1 (List.mem_of_getElem? (i := 13) (by decide +kernel))), List.forall_mem_cons.mpr ⟨(al_t7 (List.mem_of_getElem? (i := 25) (by decide +kernel))), List.forall_mem_cons.mpr ⟨(al_t7 (List.mem_of_getElem? (i := 26) (by decide +kernel))), fun _ h => absurd h List.not_mem_nil⟩⟩⟩⟩
set_option maxRecDepth 100000 in
theorem al_wm_X10_byteAt : ∀ w ∈ ev_blk (ev_unM al_mX10_byteAt, 0), w ∈ lw_tbl := by
  show ∀ w ∈ [Jvm.Cond.code al_yX10_byteAt al_mX10_byteAt.2.1 al_mX10_byteAt.2.2.1 al_mX10_byteAt.2.2.2.1, Jvm.Cond.initialized al_yX10_byteAt.cls, Jvm.Cond.instanceMethod al_yX10_byteAt, Jvm.Cond.selects al_yX10_byteAt.cls al_yX10_byteAt al_yX10_byteAt], w ∈ lw_tbl
  exact List.forall_mem_cons.mpr ⟨(al_t6 (List.mem_of_getElem? (i := 93) rfl)), List.forall_mem_cons.mpr ⟨(al_t1 (List.mem_of_getElem? (i := 13) (by decide +kernel))), List.forall_mem_cons.mpr ⟨(al_t6 (List.mem_of_getElem? (i := 92) (by decide +kernel))), List.forall_mem_cons.mpr ⟨(al_s (i := 12) (by decide +kernel)), fun _ h => absurd h List.not_mem_nil⟩⟩⟩⟩
set_option maxRecDepth 100000 in
theorem al_wm_X10_isDigit : ∀ w ∈ ev_blk (ev_unM al_mX10_isDigit, 1), w ∈ lw_tbl := by
  show ∀ w ∈ [Jvm.Cond.code al_yX10_isDigit al_mX10_isDigit.2.1 al_mX10_isDigit.2.2.1 al_mX10_isDigit.2.2.2.1, Jvm.Cond.initialized al_yX10_isDigit.cls, Jvm.Cond.static al_yX10_isDigit], w ∈ lw_tbl
  exact List.forall_mem_cons.mpr ⟨(al_t6 (List.mem_of_getElem? (i := 99) rfl)), List.forall_mem_cons.mpr ⟨(al_t1 (List.mem_of_getElem? (i := 13) (by decide +kernel))), List.forall_mem_cons.mpr ⟨(al_t6 (List.mem_of_getElem? (i := 98) (by decide +kernel))), fun _ h => absurd h List.not_mem_nil⟩⟩⟩
set_option maxRecDepth 100000 in
theorem al_wm_X10_isLetter : ∀ w ∈ ev_blk (ev_unM al_mX10_isLetter, 1), w ∈ lw_tbl := by
  show ∀ w ∈ [Jvm.Cond.code al_yX10_isLetter al_mX10_isLetter.2.1 al_mX10_isLetter.2.2.1 al_mX10_isLetter.2.2.2.1, Jvm.Cond.initialized al_yX10_isLetter.cls, Jvm.Cond.static al_yX10_isLetter], w ∈ lw_tbl
  exact List.forall_mem_cons.mpr ⟨(al_t6 (List.mem_of_getElem? (i := 96) rfl)), List.forall_mem_cons.mpr ⟨(al_t1 (List.mem_of_getElem? (i := 13) (by decide +kernel))), List.forall_mem_cons.mpr ⟨(al_t6 (List.mem_of_getElem? (i := 95) (by decide +kernel))), fun _ h => absurd h List.not_mem_nil⟩⟩⟩
set_option maxRecDepth 100000 in
theorem al_wm_X10_hexDigit : ∀ w ∈ ev_blk (ev_unM al_mX10_hexDigit, 1), w ∈ lw_tbl := by
  show ∀ w ∈ [Jvm.Cond.code al_yX10_hexDigit al_mX10_hexDigit.2.1 al_mX10_hexDigit.2.2.1 al_mX10_hexDigit.2.2.2.1, Jvm.Cond.initialized al_yX10_hexDigit.cls, Jvm.Cond.static al_yX10_hexDigit], w ∈ lw_tbl
  exact List.forall_mem_cons.mpr ⟨(al_t6 (List.mem_of_getElem? (i := 120) rfl)), List.forall_mem_cons.mpr ⟨(al_t1 (List.mem_of_getElem? (i := 13) (by decide +kernel))), List.forall_mem_cons.mpr ⟨(al_t6 (List.mem_of_getElem? (i := 119) (by decide +kernel))), fun _ h => absurd h List.not_mem_nil⟩⟩⟩
set_option maxRecDepth 100000 in
theorem al_wm_X10_scanName : ∀ w ∈ ev_blk (ev_unM al_mX10_scanName, 0), w ∈ lw_tbl := by
  show ∀ w ∈ [Jvm.Cond.code al_yX10_scanName al_mX10_scanName.2.1 al_mX10_scanName.2.2.1 al_mX10_scanName.2.2.2.1, Jvm.Cond.initialized al_yX10_scanName.cls, Jvm.Cond.instanceMethod al_yX10_scanName, Jvm.Cond.selects al_yX10_scanName.cls al_yX10_scanName al_yX10_scanName], w ∈ lw_tbl
  exact List.forall_mem_cons.mpr ⟨(al_t6 (List.mem_of_getElem? (i := 103) rfl)), List.forall_mem_cons.mpr ⟨(al_t1 (List.mem_of_getElem? (i := 13) (by decide +kernel))), List.forall_mem_cons.mpr ⟨(al_t6 (List.mem_of_getElem? (i := 101) (by decide +kernel))), List.forall_mem_cons.mpr ⟨(al_t6 (List.mem_of_getElem? (i := 102) (by decide +kernel))), fun _ h => absurd h List.not_mem_nil⟩⟩⟩⟩
set_option maxRecDepth 100000 in
theorem al_wm_X10_scanNumber : ∀ w ∈ ev_blk (ev_unM al_mX10_scanNumber, 0), w ∈ lw_tbl := by
  show ∀ w ∈ [Jvm.Cond.code al_yX10_scanNumber al_mX10_scanNumber.2.1 al_mX10_scanNumber.2.2.1 al_mX10_scanNumber.2.2.2.1, Jvm.Cond.initialized al_yX10_scanNumber.cls, Jvm.Cond.instanceMethod al_yX10_scanNumber, Jvm.Cond.selects al_yX10_scanNumber.cls al_yX10_scanNumber al_yX10_scanNumber], w ∈ lw_tbl
  exact List.forall_mem_cons.mpr ⟨(al_t6 (List.mem_of_getElem? (i := 117) rfl)), List.forall_mem_cons.mpr ⟨(al_t1 (List.mem_of_getElem? (i := 13) (by decide +kernel))), List.forall_mem_cons.mpr ⟨(al_t6 (List.mem_of_getElem? (i := 115) (by decide +kernel))), List.forall_mem_cons.mpr ⟨(al_t6 (List.mem_of_getElem? (i := 116) (by decide +kernel))), fun _ h => absurd h List.not_mem_nil⟩⟩⟩⟩
set_option maxRecDepth 100000 in
theorem al_wm_X10_scanQuoted : ∀ w ∈ ev_blk (ev_unM al_mX10_scanQuoted, 0), w ∈ lw_tbl := by
  show ∀ w ∈ [Jvm.Cond.code al_yX10_scanQuoted al_mX10_scanQuoted.2.1 al_mX10_scanQuoted.2.2.1 al_mX10_scanQuoted.2.2.2.1, Jvm.Cond.initialized al_yX10_scanQuoted.cls, Jvm.Cond.instanceMethod al_yX10_scanQuoted, Jvm.Cond.selects al_yX10_scanQuoted.cls al_yX10_scanQuoted al_yX10_scanQuoted], w ∈ lw_tbl
  exact List.forall_mem_cons.mpr ⟨(al_t6 (List.mem_of_getElem? (i := 126) rfl)), List.forall_mem_cons.mpr ⟨(al_t1 (List.mem_of_getElem? (i := 13) (by decide +kernel))), List.forall_mem_cons.mpr ⟨(al_t6 (List.mem_of_getElem? (i := 124) (by decide +kernel))), List.forall_mem_cons.mpr ⟨(al_t6 (List.mem_of_getElem? (i := 125) (by decide +kernel))), fun _ h => absurd h List.not_mem_nil⟩⟩⟩⟩
set_option maxRecDepth 100000 in
theorem al_wm_X10_escape : ∀ w ∈ ev_blk (ev_unM al_mX10_escape, 0), w ∈ lw_tbl := by
  show ∀ w ∈ [Jvm.Cond.code al_yX10_escape al_mX10_escape.2.1 al_mX10_escape.2.2.1 al_mX10_escape.2.2.2.1, Jvm.Cond.initialized al_yX10_escape.cls, Jvm.Cond.instanceMethod al_yX10_escape, Jvm.Cond.selects al_yX10_escape.cls al_yX10_escape al_yX10_escape], w ∈ lw_tbl
  exact List.forall_mem_cons.mpr ⟨(al_t6 (List.mem_of_getElem? (i := 130) rfl)), List.forall_mem_cons.mpr ⟨(al_t1 (List.mem_of_getElem? (i := 13) (by decide +kernel))), List.forall_mem_cons.mpr ⟨(al_t6 (List.mem_of_getElem? (i := 129) (by decide +kernel))), List.forall_mem_cons.mpr ⟨(al_s (i := 13) (by decide +kernel)), fun _ h => absurd h List.not_mem_nil⟩⟩⟩⟩
set_option maxRecDepth 100000 in
theorem al_wm_X10_scanSign : ∀ w ∈ ev_blk (ev_unM al_mX10_scanSign, 0), w ∈ lw_tbl := by
  show ∀ w ∈ [Jvm.Cond.code al_yX10_scanSign al_mX10_scanSign.2.1 al_mX10_scanSign.2.2.1 al_mX10_scanSign.2.2.2.1, Jvm.Cond.initialized al_yX10_scanSign.cls, Jvm.Cond.instanceMethod al_yX10_scanSign, Jvm.Cond.selects al_yX10_scanSign.cls al_yX10_scanSign al_yX10_scanSign], w ∈ lw_tbl
  exact List.forall_mem_cons.mpr ⟨(al_t6 (List.mem_of_getElem? (i := 138) rfl)), List.forall_mem_cons.mpr ⟨(al_t1 (List.mem_of_getElem? (i := 13) (by decide +kernel))), List.forall_mem_cons.mpr ⟨(al_t6 (List.mem_of_getElem? (i := 136) (by decide +kernel))), List.forall_mem_cons.mpr ⟨(al_t6 (List.mem_of_getElem? (i := 137) (by decide +kernel))), fun _ h => absurd h List.not_mem_nil⟩⟩⟩⟩
set_option maxRecDepth 100000 in
theorem al_wm_X10_pairOf : ∀ w ∈ ev_blk (ev_unM al_mX10_pairOf, 1), w ∈ lw_tbl := by
  show ∀ w ∈ [Jvm.Cond.code al_yX10_pairOf al_mX10_pairOf.2.1 al_mX10_pairOf.2.2.1 al_mX10_pairOf.2.2.2.1, Jvm.Cond.initialized al_yX10_pairOf.cls, Jvm.Cond.static al_yX10_pairOf], w ∈ lw_tbl
  exact List.forall_mem_cons.mpr ⟨(al_t6 (List.mem_of_getElem? (i := 141) rfl)), List.forall_mem_cons.mpr ⟨(al_t1 (List.mem_of_getElem? (i := 13) (by decide +kernel))), List.forall_mem_cons.mpr ⟨(al_t6 (List.mem_of_getElem? (i := 140) (by decide +kernel))), fun _ h => absurd h List.not_mem_nil⟩⟩⟩
set_option maxRecDepth 100000 in
theorem al_wm_X12_lineOf : ∀ w ∈ ev_blk (ev_unM al_mX12_lineOf, 0), w ∈ lw_tbl := by
  show ∀ w ∈ [Jvm.Cond.code al_yX12_lineOf al_mX12_lineOf.2.1 al_mX12_lineOf.2.2.1 al_mX12_lineOf.2.2.2.1, Jvm.Cond.initialized al_yX12_lineOf.cls, Jvm.Cond.instanceMethod al_yX12_lineOf, Jvm.Cond.selects al_yX12_lineOf.cls al_yX12_lineOf al_yX12_lineOf], w ∈ lw_tbl
  exact List.forall_mem_cons.mpr ⟨(al_t14 (List.mem_of_getElem? (i := 169) rfl)), List.forall_mem_cons.mpr ⟨(al_t1 (List.mem_of_getElem? (i := 30) (by decide +kernel))), List.forall_mem_cons.mpr ⟨(al_t14 (List.mem_of_getElem? (i := 168) (by decide +kernel))), List.forall_mem_cons.mpr ⟨(al_s (i := 197) (by decide +kernel)), fun _ h => absurd h List.not_mem_nil⟩⟩⟩⟩
set_option maxRecDepth 100000 in
theorem al_wm_X12_isLetter : ∀ w ∈ ev_blk (ev_unM al_mX12_isLetter, 1), w ∈ lw_tbl := by
  show ∀ w ∈ [Jvm.Cond.code al_yX12_isLetter al_mX12_isLetter.2.1 al_mX12_isLetter.2.2.1 al_mX12_isLetter.2.2.2.1, Jvm.Cond.initialized al_yX12_isLetter.cls, Jvm.Cond.static al_yX12_isLetter], w ∈ lw_tbl
  exact List.forall_mem_cons.mpr ⟨(al_t14 (List.mem_of_getElem? (i := 71) rfl)), List.forall_mem_cons.mpr ⟨(al_t1 (List.mem_of_getElem? (i := 30) (by decide +kernel))), List.forall_mem_cons.mpr ⟨(al_t14 (List.mem_of_getElem? (i := 70) (by decide +kernel))), fun _ h => absurd h List.not_mem_nil⟩⟩⟩
set_option maxRecDepth 100000 in
theorem al_wm_X12_isDigit : ∀ w ∈ ev_blk (ev_unM al_mX12_isDigit, 1), w ∈ lw_tbl := by
  show ∀ w ∈ [Jvm.Cond.code al_yX12_isDigit al_mX12_isDigit.2.1 al_mX12_isDigit.2.2.1 al_mX12_isDigit.2.2.2.1, Jvm.Cond.initialized al_yX12_isDigit.cls, Jvm.Cond.static al_yX12_isDigit], w ∈ lw_tbl
  exact List.forall_mem_cons.mpr ⟨(al_t14 (List.mem_of_getElem? (i := 78) rfl)), List.forall_mem_cons.mpr ⟨(al_t1 (List.mem_of_getElem? (i := 30) (by decide +kernel))), List.forall_mem_cons.mpr ⟨(al_t14 (List.mem_of_getElem? (i := 77) (by decide +kernel))), fun _ h => absurd h List.not_mem_nil⟩⟩⟩
set_option maxRecDepth 100000 in
theorem al_wm_X12_hex : ∀ w ∈ ev_blk (ev_unM al_mX12_hex, 1), w ∈ lw_tbl := by
  show ∀ w ∈ [Jvm.Cond.code al_yX12_hex al_mX12_hex.2.1 al_mX12_hex.2.2.1 al_mX12_hex.2.2.2.1, Jvm.Cond.initialized al_yX12_hex.cls, Jvm.Cond.static al_yX12_hex], w ∈ lw_tbl
  exact List.forall_mem_cons.mpr ⟨(al_t14 (List.mem_of_getElem? (i := 111) rfl)), List.forall_mem_cons.mpr ⟨(al_t1 (List.mem_of_getElem? (i := 30) (by decide +kernel))), List.forall_mem_cons.mpr ⟨(al_t14 (List.mem_of_getElem? (i := 110) (by decide +kernel))), fun _ h => absurd h List.not_mem_nil⟩⟩⟩
set_option maxRecDepth 100000 in
theorem al_wm_X12_wordAt : ∀ w ∈ ev_blk (ev_unM al_mX12_wordAt, 0), w ∈ lw_tbl := by
  show ∀ w ∈ [Jvm.Cond.code al_yX12_wordAt al_mX12_wordAt.2.1 al_mX12_wordAt.2.2.1 al_mX12_wordAt.2.2.2.1, Jvm.Cond.initialized al_yX12_wordAt.cls, Jvm.Cond.instanceMethod al_yX12_wordAt, Jvm.Cond.selects al_yX12_wordAt.cls al_yX12_wordAt al_yX12_wordAt], w ∈ lw_tbl
  exact List.forall_mem_cons.mpr ⟨(al_t14 (List.mem_of_getElem? (i := 82) rfl)), List.forall_mem_cons.mpr ⟨(al_t1 (List.mem_of_getElem? (i := 30) (by decide +kernel))), List.forall_mem_cons.mpr ⟨(al_t14 (List.mem_of_getElem? (i := 81) (by decide +kernel))), List.forall_mem_cons.mpr ⟨(al_s (i := 184) (by decide +kernel)), fun _ h => absurd h List.not_mem_nil⟩⟩⟩⟩
set_option maxRecDepth 100000 in
theorem al_wm_X12_wordBehind : ∀ w ∈ ev_blk (ev_unM al_mX12_wordBehind, 1), w ∈ lw_tbl := by
  show ∀ w ∈ [Jvm.Cond.code al_yX12_wordBehind al_mX12_wordBehind.2.1 al_mX12_wordBehind.2.2.1 al_mX12_wordBehind.2.2.2.1, Jvm.Cond.initialized al_yX12_wordBehind.cls, Jvm.Cond.static al_yX12_wordBehind], w ∈ lw_tbl
  exact List.forall_mem_cons.mpr ⟨(al_t14 (List.mem_of_getElem? (i := 95) rfl)), List.forall_mem_cons.mpr ⟨(al_t1 (List.mem_of_getElem? (i := 30) (by decide +kernel))), List.forall_mem_cons.mpr ⟨(al_t14 (List.mem_of_getElem? (i := 94) (by decide +kernel))), fun _ h => absurd h List.not_mem_nil⟩⟩⟩
set_option maxRecDepth 100000 in
theorem al_wm_X12_readName : ∀ w ∈ ev_blk (ev_unM al_mX12_readName, 0), w ∈ lw_tbl := by
  show ∀ w ∈ [Jvm.Cond.code al_yX12_readName al_mX12_readName.2.1 al_mX12_readName.2.2.1 al_mX12_readName.2.2.2.1, Jvm.Cond.initialized al_yX12_readName.cls, Jvm.Cond.instanceMethod al_yX12_readName, Jvm.Cond.selects al_yX12_readName.cls al_yX12_readName al_yX12_readName], w ∈ lw_tbl
  exact List.forall_mem_cons.mpr ⟨(al_t14 (List.mem_of_getElem? (i := 75) rfl)), List.forall_mem_cons.mpr ⟨(al_t1 (List.mem_of_getElem? (i := 30) (by decide +kernel))), List.forall_mem_cons.mpr ⟨(al_t14 (List.mem_of_getElem? (i := 74) (by decide +kernel))), List.forall_mem_cons.mpr ⟨(al_s (i := 183) (by decide +kernel)), fun _ h => absurd h List.not_mem_nil⟩⟩⟩⟩
set_option maxRecDepth 100000 in
theorem al_wm_X12_readWhole : ∀ w ∈ ev_blk (ev_unM al_mX12_readWhole, 0), w ∈ lw_tbl := by
  show ∀ w ∈ [Jvm.Cond.code al_yX12_readWhole al_mX12_readWhole.2.1 al_mX12_readWhole.2.2.1 al_mX12_readWhole.2.2.2.1, Jvm.Cond.initialized al_yX12_readWhole.cls, Jvm.Cond.instanceMethod al_yX12_readWhole, Jvm.Cond.selects al_yX12_readWhole.cls al_yX12_readWhole al_yX12_readWhole], w ∈ lw_tbl
  exact List.forall_mem_cons.mpr ⟨(al_t14 (List.mem_of_getElem? (i := 108) rfl)), List.forall_mem_cons.mpr ⟨(al_t1 (List.mem_of_getElem? (i := 30) (by decide +kernel))), List.forall_mem_cons.mpr ⟨(al_t14 (List.mem_of_getElem? (i := 107) (by decide +kernel))), List.forall_mem_cons.mpr ⟨(al_s (i := 185) (by decide +kernel)), fun _ h => absurd h List.not_mem_nil⟩⟩⟩⟩
set_option maxRecDepth 100000 in
theorem al_wm_X12_escape : ∀ w ∈ ev_blk (ev_unM al_mX12_escape, 0), w ∈ lw_tbl := by
  show ∀ w ∈ [Jvm.Cond.code al_yX12_escape al_mX12_escape.2.1 al_mX12_escape.2.2.1 al_mX12_escape.2.2.2.1, Jvm.Cond.initialized al_yX12_escape.cls, Jvm.Cond.instanceMethod al_yX12_escape, Jvm.Cond.selects al_yX12_escape.cls al_yX12_escape al_yX12_escape], w ∈ lw_tbl
  exact List.forall_mem_cons.mpr ⟨(al_t14 (List.mem_of_getElem? (i := 122) rfl)), List.forall_mem_cons.mpr ⟨(al_t1 (List.mem_of_getElem? (i := 30) (by decide +kernel))), List.forall_mem_cons.mpr ⟨(al_t14 (List.mem_of_getElem? (i := 121) (by decide +kernel))), List.forall_mem_cons.mpr ⟨(al_s (i := 187) (by decide +kernel)), fun _ h => absurd h List.not_mem_nil⟩⟩⟩⟩
set_option maxRecDepth 100000 in
theorem al_wm_X12_readString : ∀ w ∈ ev_blk (ev_unM al_mX12_readString, 0), w ∈ lw_tbl := by
  show ∀ w ∈ [Jvm.Cond.code al_yX12_readString al_mX12_readString.2.1 al_mX12_readString.2.2.1 al_mX12_readString.2.2.2.1, Jvm.Cond.initialized al_yX12_readString.cls, Jvm.Cond.instanceMethod al_yX12_readString, Jvm.Cond.selects al_yX12_readString.cls al_yX12_readString al_yX12_readString], w ∈ lw_tbl
  exact List.forall_mem_cons.mpr ⟨(al_t14 (List.mem_of_getElem? (i := 118) rfl)), List.forall_mem_cons.mpr ⟨(al_t1 (List.mem_of_getElem? (i := 30) (by decide +kernel))), List.forall_mem_cons.mpr ⟨(al_t14 (List.mem_of_getElem? (i := 117) (by decide +kernel))), List.forall_mem_cons.mpr ⟨(al_s (i := 186) (by decide +kernel)), fun _ h => absurd h List.not_mem_nil⟩⟩⟩⟩
set_option maxRecDepth 100000 in
theorem al_wm_X12_pair : ∀ w ∈ ev_blk (ev_unM al_mX12_pair, 1), w ∈ lw_tbl := by
  show ∀ w ∈ [Jvm.Cond.code al_yX12_pair al_mX12_pair.2.1 al_mX12_pair.2.2.1 al_mX12_pair.2.2.2.1, Jvm.Cond.initialized al_yX12_pair.cls, Jvm.Cond.static al_yX12_pair], w ∈ lw_tbl
  exact List.forall_mem_cons.mpr ⟨(al_t14 (List.mem_of_getElem? (i := 129) rfl)), List.forall_mem_cons.mpr ⟨(al_t1 (List.mem_of_getElem? (i := 30) (by decide +kernel))), List.forall_mem_cons.mpr ⟨(al_t14 (List.mem_of_getElem? (i := 128) (by decide +kernel))), fun _ h => absurd h List.not_mem_nil⟩⟩⟩
set_option maxRecDepth 100000 in
theorem al_wm_X12_isAlone : ∀ w ∈ ev_blk (ev_unM al_mX12_isAlone, 1), w ∈ lw_tbl := by
  show ∀ w ∈ [Jvm.Cond.code al_yX12_isAlone al_mX12_isAlone.2.1 al_mX12_isAlone.2.2.1 al_mX12_isAlone.2.2.2.1, Jvm.Cond.initialized al_yX12_isAlone.cls, Jvm.Cond.static al_yX12_isAlone], w ∈ lw_tbl
  exact List.forall_mem_cons.mpr ⟨(al_t14 (List.mem_of_getElem? (i := 133) rfl)), List.forall_mem_cons.mpr ⟨(al_t1 (List.mem_of_getElem? (i := 30) (by decide +kernel))), List.forall_mem_cons.mpr ⟨(al_t14 (List.mem_of_getElem? (i := 132) (by decide +kernel))), fun _ h => absurd h List.not_mem_nil⟩⟩⟩
set_option maxRecDepth 100000 in
theorem al_wm_X12_readSign : ∀ w ∈ ev_blk (ev_unM al_mX12_readSign, 0), w ∈ lw_tbl := by
  show ∀ w ∈ [Jvm.Cond.code al_yX12_readSign al_mX12_readSign.2.1 al_mX12_readSign.2.2.1 al_mX12_readSign.2.2.2.1, Jvm.Cond.initialized al_yX12_readSign.cls, Jvm.Cond.instanceMethod al_yX12_readSign, Jvm.Cond.selects al_yX12_readSign.cls al_yX12_readSign al_yX12_readSign], w ∈ lw_tbl
  exact List.forall_mem_cons.mpr ⟨(al_t14 (List.mem_of_getElem? (i := 126) rfl)), List.forall_mem_cons.mpr ⟨(al_t1 (List.mem_of_getElem? (i := 30) (by decide +kernel))), List.forall_mem_cons.mpr ⟨(al_t14 (List.mem_of_getElem? (i := 125) (by decide +kernel))), List.forall_mem_cons.mpr ⟨(al_s (i := 188) (by decide +kernel)), fun _ h => absurd h List.not_mem_nil⟩⟩⟩⟩
set_option maxRecDepth 100000 in
theorem al_wm_X12_fail : ∀ w ∈ ev_blk (ev_unM al_mX12_fail, 0), w ∈ lw_tbl := by
  show ∀ w ∈ [Jvm.Cond.code al_yX12_fail al_mX12_fail.2.1 al_mX12_fail.2.2.1 al_mX12_fail.2.2.2.1, Jvm.Cond.initialized al_yX12_fail.cls, Jvm.Cond.instanceMethod al_yX12_fail, Jvm.Cond.selects al_yX12_fail.cls al_yX12_fail al_yX12_fail], w ∈ lw_tbl
  exact List.forall_mem_cons.mpr ⟨(al_t14 (List.mem_of_getElem? (i := 177) rfl)), List.forall_mem_cons.mpr ⟨(al_t1 (List.mem_of_getElem? (i := 30) (by decide +kernel))), List.forall_mem_cons.mpr ⟨(al_t14 (List.mem_of_getElem? (i := 176) (by decide +kernel))), List.forall_mem_cons.mpr ⟨(al_s (i := 199) (by decide +kernel)), fun _ h => absurd h List.not_mem_nil⟩⟩⟩⟩
set_option maxRecDepth 100000 in
theorem al_wm_X12_here : ∀ w ∈ ev_blk (ev_unM al_mX12_here, 0), w ∈ lw_tbl := by
  show ∀ w ∈ [Jvm.Cond.code al_yX12_here al_mX12_here.2.1 al_mX12_here.2.2.1 al_mX12_here.2.2.2.1, Jvm.Cond.initialized al_yX12_here.cls, Jvm.Cond.instanceMethod al_yX12_here, Jvm.Cond.selects al_yX12_here.cls al_yX12_here al_yX12_here], w ∈ lw_tbl
  exact List.forall_mem_cons.mpr ⟨(al_t14 (List.mem_of_getElem? (i := 165) rfl)), List.forall_mem_cons.mpr ⟨(al_t1 (List.mem_of_getElem? (i := 30) (by decide +kernel))), List.forall_mem_cons.mpr ⟨(al_t14 (List.mem_of_getElem? (i := 164) (by decide +kernel))), List.forall_mem_cons.mpr ⟨(al_s (i := 196) (by decide +kernel)), fun _ h => absurd h List.not_mem_nil⟩⟩⟩⟩
set_option maxRecDepth 100000 in
theorem al_wm_X12_wrong : ∀ w ∈ ev_blk (ev_unM al_mX12_wrong, 0), w ∈ lw_tbl := by
  show ∀ w ∈ [Jvm.Cond.code al_yX12_wrong al_mX12_wrong.2.1 al_mX12_wrong.2.2.1 al_mX12_wrong.2.2.2.1, Jvm.Cond.initialized al_yX12_wrong.cls, Jvm.Cond.instanceMethod al_yX12_wrong, Jvm.Cond.selects al_yX12_wrong.cls al_yX12_wrong al_yX12_wrong], w ∈ lw_tbl
  exact List.forall_mem_cons.mpr ⟨(al_t14 (List.mem_of_getElem? (i := 217) rfl)), List.forall_mem_cons.mpr ⟨(al_t1 (List.mem_of_getElem? (i := 30) (by decide +kernel))), List.forall_mem_cons.mpr ⟨(al_t14 (List.mem_of_getElem? (i := 216) (by decide +kernel))), List.forall_mem_cons.mpr ⟨(al_s (i := 209) (by decide +kernel)), fun _ h => absurd h List.not_mem_nil⟩⟩⟩⟩
set_option maxRecDepth 100000 in
theorem al_wm_X12_take : ∀ w ∈ ev_blk (ev_unM al_mX12_take, 0), w ∈ lw_tbl := by
  show ∀ w ∈ [Jvm.Cond.code al_yX12_take al_mX12_take.2.1 al_mX12_take.2.2.1 al_mX12_take.2.2.2.1, Jvm.Cond.initialized al_yX12_take.cls, Jvm.Cond.instanceMethod al_yX12_take, Jvm.Cond.selects al_yX12_take.cls al_yX12_take al_yX12_take], w ∈ lw_tbl
  exact List.forall_mem_cons.mpr ⟨(al_t14 (List.mem_of_getElem? (i := 173) rfl)), List.forall_mem_cons.mpr ⟨(al_t1 (List.mem_of_getElem? (i := 30) (by decide +kernel))), List.forall_mem_cons.mpr ⟨(al_t14 (List.mem_of_getElem? (i := 172) (by decide +kernel))), List.forall_mem_cons.mpr ⟨(al_s (i := 198) (by decide +kernel)), fun _ h => absurd h List.not_mem_nil⟩⟩⟩⟩
set_option maxRecDepth 100000 in
theorem al_wm_X12_needSign : ∀ w ∈ ev_blk (ev_unM al_mX12_needSign, 0), w ∈ lw_tbl := by
  show ∀ w ∈ [Jvm.Cond.code al_yX12_needSign al_mX12_needSign.2.1 al_mX12_needSign.2.2.1 al_mX12_needSign.2.2.2.1, Jvm.Cond.initialized al_yX12_needSign.cls, Jvm.Cond.instanceMethod al_yX12_needSign, Jvm.Cond.selects al_yX12_needSign.cls al_yX12_needSign al_yX12_needSign], w ∈ lw_tbl
  exact List.forall_mem_cons.mpr ⟨(al_t15 (List.mem_of_getElem? (i := 83) rfl)), List.forall_mem_cons.mpr ⟨(al_t1 (List.mem_of_getElem? (i := 30) (by decide +kernel))), List.forall_mem_cons.mpr ⟨(al_t15 (List.mem_of_getElem? (i := 82) (by decide +kernel))), List.forall_mem_cons.mpr ⟨(al_s (i := 234) (by decide +kernel)), fun _ h => absurd h List.not_mem_nil⟩⟩⟩⟩
set_option maxRecDepth 100000 in
theorem al_wm_X12_needWord : ∀ w ∈ ev_blk (ev_unM al_mX12_needWord, 0), w ∈ lw_tbl := by
  show ∀ w ∈ [Jvm.Cond.code al_yX12_needWord al_mX12_needWord.2.1 al_mX12_needWord.2.2.1 al_mX12_needWord.2.2.2.1, Jvm.Cond.initialized al_yX12_needWord.cls, Jvm.Cond.instanceMethod al_yX12_needWord, Jvm.Cond.selects al_yX12_needWord.cls al_yX12_needWord al_yX12_needWord], w ∈ lw_tbl
  exact List.forall_mem_cons.mpr ⟨(al_t14 (List.mem_of_getElem? (i := 225) rfl)), List.forall_mem_cons.mpr ⟨(al_t1 (List.mem_of_getElem? (i := 30) (by decide +kernel))), List.forall_mem_cons.mpr ⟨(al_t14 (List.mem_of_getElem? (i := 224) (by decide +kernel))), List.forall_mem_cons.mpr ⟨(al_s (i := 211) (by decide +kernel)), fun _ h => absurd h List.not_mem_nil⟩⟩⟩⟩
set_option maxRecDepth 100000 in
theorem al_wm_X12_lineHere : ∀ w ∈ ev_blk (ev_unM al_mX12_lineHere, 0), w ∈ lw_tbl := by
  show ∀ w ∈ [Jvm.Cond.code al_yX12_lineHere al_mX12_lineHere.2.1 al_mX12_lineHere.2.2.1 al_mX12_lineHere.2.2.2.1, Jvm.Cond.initialized al_yX12_lineHere.cls, Jvm.Cond.instanceMethod al_yX12_lineHere, Jvm.Cond.selects al_yX12_lineHere.cls al_yX12_lineHere al_yX12_lineHere], w ∈ lw_tbl
  exact List.forall_mem_cons.mpr ⟨(al_t14 (List.mem_of_getElem? (i := 161) rfl)), List.forall_mem_cons.mpr ⟨(al_t1 (List.mem_of_getElem? (i := 30) (by decide +kernel))), List.forall_mem_cons.mpr ⟨(al_t14 (List.mem_of_getElem? (i := 160) (by decide +kernel))), List.forall_mem_cons.mpr ⟨(al_s (i := 195) (by decide +kernel)), fun _ h => absurd h List.not_mem_nil⟩⟩⟩⟩
set_option maxRecDepth 100000 in
theorem al_wm_X12_enter : ∀ w ∈ ev_blk (ev_unM al_mX12_enter, 0), w ∈ lw_tbl := by
  show ∀ w ∈ [Jvm.Cond.code al_yX12_enter al_mX12_enter.2.1 al_mX12_enter.2.2.1 al_mX12_enter.2.2.2.1, Jvm.Cond.initialized al_yX12_enter.cls, Jvm.Cond.instanceMethod al_yX12_enter, Jvm.Cond.selects al_yX12_enter.cls al_yX12_enter al_yX12_enter], w ∈ lw_tbl
  exact List.forall_mem_cons.mpr ⟨(al_t14 (List.mem_of_getElem? (i := 193) rfl)), List.forall_mem_cons.mpr ⟨(al_t1 (List.mem_of_getElem? (i := 30) (by decide +kernel))), List.forall_mem_cons.mpr ⟨(al_t14 (List.mem_of_getElem? (i := 192) (by decide +kernel))), List.forall_mem_cons.mpr ⟨(al_s (i := 203) (by decide +kernel)), fun _ h => absurd h List.not_mem_nil⟩⟩⟩⟩
set_option maxRecDepth 100000 in
theorem al_wm_X12_beginsE : ∀ w ∈ ev_blk (ev_unM al_mX12_beginsE, 0), w ∈ lw_tbl := by
  show ∀ w ∈ [Jvm.Cond.code al_yX12_beginsE al_mX12_beginsE.2.1 al_mX12_beginsE.2.2.1 al_mX12_beginsE.2.2.2.1, Jvm.Cond.initialized al_yX12_beginsE.cls, Jvm.Cond.instanceMethod al_yX12_beginsE, Jvm.Cond.selects al_yX12_beginsE.cls al_yX12_beginsE al_yX12_beginsE], w ∈ lw_tbl
  exact List.forall_mem_cons.mpr ⟨(al_t14 (List.mem_of_getElem? (i := 181) rfl)), List.forall_mem_cons.mpr ⟨(al_t1 (List.mem_of_getElem? (i := 30) (by decide +kernel))), List.forall_mem_cons.mpr ⟨(al_t14 (List.mem_of_getElem? (i := 180) (by decide +kernel))), List.forall_mem_cons.mpr ⟨(al_s (i := 200) (by decide +kernel)), fun _ h => absurd h List.not_mem_nil⟩⟩⟩⟩
set_option maxRecDepth 100000 in
theorem al_wm_X12_proto : ∀ w ∈ ev_blk (ev_unM al_mX12_proto, 0), w ∈ lw_tbl := by
  show ∀ w ∈ [Jvm.Cond.code al_yX12_proto al_mX12_proto.2.1 al_mX12_proto.2.2.1 al_mX12_proto.2.2.2.1, Jvm.Cond.initialized al_yX12_proto.cls, Jvm.Cond.instanceMethod al_yX12_proto, Jvm.Cond.selects al_yX12_proto.cls al_yX12_proto al_yX12_proto], w ∈ lw_tbl
  exact List.forall_mem_cons.mpr ⟨(al_t14 (List.mem_of_getElem? (i := 209) rfl)), List.forall_mem_cons.mpr ⟨(al_t1 (List.mem_of_getElem? (i := 30) (by decide +kernel))), List.forall_mem_cons.mpr ⟨(al_t14 (List.mem_of_getElem? (i := 208) (by decide +kernel))), List.forall_mem_cons.mpr ⟨(al_s (i := 207) (by decide +kernel)), fun _ h => absurd h List.not_mem_nil⟩⟩⟩⟩
set_option maxRecDepth 100000 in
theorem al_wm_X12_countLocal : ∀ w ∈ ev_blk (ev_unM al_mX12_countLocal, 0), w ∈ lw_tbl := by
  show ∀ w ∈ [Jvm.Cond.code al_yX12_countLocal al_mX12_countLocal.2.1 al_mX12_countLocal.2.2.1 al_mX12_countLocal.2.2.2.1, Jvm.Cond.initialized al_yX12_countLocal.cls, Jvm.Cond.instanceMethod al_yX12_countLocal, Jvm.Cond.selects al_yX12_countLocal.cls al_yX12_countLocal al_yX12_countLocal], w ∈ lw_tbl
  exact List.forall_mem_cons.mpr ⟨(al_t14 (List.mem_of_getElem? (i := 221) rfl)), List.forall_mem_cons.mpr ⟨(al_t1 (List.mem_of_getElem? (i := 30) (by decide +kernel))), List.forall_mem_cons.mpr ⟨(al_t14 (List.mem_of_getElem? (i := 220) (by decide +kernel))), List.forall_mem_cons.mpr ⟨(al_s (i := 210) (by decide +kernel)), fun _ h => absurd h List.not_mem_nil⟩⟩⟩⟩
set_option maxRecDepth 100000 in
theorem al_wm_X12_know : ∀ w ∈ ev_blk (ev_unM al_mX12_know, 0), w ∈ lw_tbl := by
  show ∀ w ∈ [Jvm.Cond.code al_yX12_know al_mX12_know.2.1 al_mX12_know.2.2.1 al_mX12_know.2.2.2.1, Jvm.Cond.initialized al_yX12_know.cls, Jvm.Cond.instanceMethod al_yX12_know, Jvm.Cond.selects al_yX12_know.cls al_yX12_know al_yX12_know], w ∈ lw_tbl
  exact List.forall_mem_cons.mpr ⟨(al_t15 (List.mem_of_getElem? (i := 9) rfl)), List.forall_mem_cons.mpr ⟨(al_t1 (List.mem_of_getElem? (i := 30) (by decide +kernel))), List.forall_mem_cons.mpr ⟨(al_t15 (List.mem_of_getElem? (i := 8) (by decide +kernel))), List.forall_mem_cons.mpr ⟨(al_s (i := 217) (by decide +kernel)), fun _ h => absurd h List.not_mem_nil⟩⟩⟩⟩
set_option maxRecDepth 100000 in
theorem al_wm_X12_captured : ∀ w ∈ ev_blk (ev_unM al_mX12_captured, 0), w ∈ lw_tbl := by
  show ∀ w ∈ [Jvm.Cond.code al_yX12_captured al_mX12_captured.2.1 al_mX12_captured.2.2.1 al_mX12_captured.2.2.2.1, Jvm.Cond.initialized al_yX12_captured.cls, Jvm.Cond.instanceMethod al_yX12_captured, Jvm.Cond.selects al_yX12_captured.cls al_yX12_captured al_yX12_captured], w ∈ lw_tbl
  exact List.forall_mem_cons.mpr ⟨(al_t14 (List.mem_of_getElem? (i := 237) rfl)), List.forall_mem_cons.mpr ⟨(al_t1 (List.mem_of_getElem? (i := 30) (by decide +kernel))), List.forall_mem_cons.mpr ⟨(al_t14 (List.mem_of_getElem? (i := 236) (by decide +kernel))), List.forall_mem_cons.mpr ⟨(al_s (i := 214) (by decide +kernel)), fun _ h => absurd h List.not_mem_nil⟩⟩⟩⟩
set_option maxRecDepth 100000 in
theorem al_wm_X12_resolve : ∀ w ∈ ev_blk (ev_unM al_mX12_resolve, 0), w ∈ lw_tbl := by
  show ∀ w ∈ [Jvm.Cond.code al_yX12_resolve al_mX12_resolve.2.1 al_mX12_resolve.2.2.1 al_mX12_resolve.2.2.2.1, Jvm.Cond.initialized al_yX12_resolve.cls, Jvm.Cond.instanceMethod al_yX12_resolve, Jvm.Cond.selects al_yX12_resolve.cls al_yX12_resolve al_yX12_resolve], w ∈ lw_tbl
  exact List.forall_mem_cons.mpr ⟨(al_t14 (List.mem_of_getElem? (i := 233) rfl)), List.forall_mem_cons.mpr ⟨(al_t1 (List.mem_of_getElem? (i := 30) (by decide +kernel))), List.forall_mem_cons.mpr ⟨(al_t14 (List.mem_of_getElem? (i := 232) (by decide +kernel))), List.forall_mem_cons.mpr ⟨(al_s (i := 213) (by decide +kernel)), fun _ h => absurd h List.not_mem_nil⟩⟩⟩⟩
set_option maxRecDepth 100000 in
theorem al_wm_X12_discharge : ∀ w ∈ ev_blk (ev_unM al_mX12_discharge, 0), w ∈ lw_tbl := by
  show ∀ w ∈ [Jvm.Cond.code al_yX12_discharge al_mX12_discharge.2.1 al_mX12_discharge.2.2.1 al_mX12_discharge.2.2.2.1, Jvm.Cond.initialized al_yX12_discharge.cls, Jvm.Cond.instanceMethod al_yX12_discharge, Jvm.Cond.selects al_yX12_discharge.cls al_yX12_discharge al_yX12_discharge], w ∈ lw_tbl
  exact List.forall_mem_cons.mpr ⟨(al_t15 (List.mem_of_getElem? (i := 1) rfl)), List.forall_mem_cons.mpr ⟨(al_t1 (List.mem_of_getElem? (i := 30) (by decide +kernel))), List.forall_mem_cons.mpr ⟨(al_t15 (List.mem_of_getElem? (i := 0) (by decide +kernel))), List.forall_mem_cons.mpr ⟨(al_s (i := 215) (by decide +kernel)), fun _ h => absurd h List.not_mem_nil⟩⟩⟩⟩
set_option maxRecDepth 100000 in
theorem al_wm_X12_block : ∀ w ∈ ev_blk (ev_unM al_mX12_block, 0), w ∈ lw_tbl := by
  show ∀ w ∈ [Jvm.Cond.code al_yX12_block al_mX12_block.2.1 al_mX12_block.2.2.1 al_mX12_block.2.2.2.1, Jvm.Cond.initialized al_yX12_block.cls, Jvm.Cond.instanceMethod al_yX12_block, Jvm.Cond.selects al_yX12_block.cls al_yX12_block al_yX12_block], w ∈ lw_tbl
  exact List.forall_mem_cons.mpr ⟨(al_t14 (List.mem_of_getElem? (i := 201) rfl)), List.forall_mem_cons.mpr ⟨(al_t1 (List.mem_of_getElem? (i := 30) (by decide +kernel))), List.forall_mem_cons.mpr ⟨(al_t14 (List.mem_of_getElem? (i := 200) (by decide +kernel))), List.forall_mem_cons.mpr ⟨(al_s (i := 205) (by decide +kernel)), fun _ h => absurd h List.not_mem_nil⟩⟩⟩⟩
set_option maxRecDepth 100000 in
theorem al_wm_X12_endScope : ∀ w ∈ ev_blk (ev_unM al_mX12_endScope, 0), w ∈ lw_tbl := by
  show ∀ w ∈ [Jvm.Cond.code al_yX12_endScope al_mX12_endScope.2.1 al_mX12_endScope.2.2.1 al_mX12_endScope.2.2.2.1, Jvm.Cond.initialized al_yX12_endScope.cls, Jvm.Cond.instanceMethod al_yX12_endScope, Jvm.Cond.selects al_yX12_endScope.cls al_yX12_endScope al_yX12_endScope], w ∈ lw_tbl
  exact List.forall_mem_cons.mpr ⟨(al_t15 (List.mem_of_getElem? (i := 21) rfl)), List.forall_mem_cons.mpr ⟨(al_t1 (List.mem_of_getElem? (i := 30) (by decide +kernel))), List.forall_mem_cons.mpr ⟨(al_t15 (List.mem_of_getElem? (i := 20) (by decide +kernel))), List.forall_mem_cons.mpr ⟨(al_s (i := 220) (by decide +kernel)), fun _ h => absurd h List.not_mem_nil⟩⟩⟩⟩
set_option maxRecDepth 100000 in
theorem al_wm_X12_statement : ∀ w ∈ ev_blk (ev_unM al_mX12_statement, 0), w ∈ lw_tbl := by
  show ∀ w ∈ [Jvm.Cond.code al_yX12_statement al_mX12_statement.2.1 al_mX12_statement.2.2.1 al_mX12_statement.2.2.2.1, Jvm.Cond.initialized al_yX12_statement.cls, Jvm.Cond.instanceMethod al_yX12_statement, Jvm.Cond.selects al_yX12_statement.cls al_yX12_statement al_yX12_statement], w ∈ lw_tbl
  exact List.forall_mem_cons.mpr ⟨(al_t14 (List.mem_of_getElem? (i := 197) rfl)), List.forall_mem_cons.mpr ⟨(al_t1 (List.mem_of_getElem? (i := 30) (by decide +kernel))), List.forall_mem_cons.mpr ⟨(al_t14 (List.mem_of_getElem? (i := 196) (by decide +kernel))), List.forall_mem_cons.mpr ⟨(al_s (i := 204) (by decide +kernel)), fun _ h => absurd h List.not_mem_nil⟩⟩⟩⟩
set_option maxRecDepth 100000 in
theorem al_wm_X12_openLoop : ∀ w ∈ ev_blk (ev_unM al_mX12_openLoop, 0), w ∈ lw_tbl := by
  show ∀ w ∈ [Jvm.Cond.code al_yX12_openLoop al_mX12_openLoop.2.1 al_mX12_openLoop.2.2.1 al_mX12_openLoop.2.2.2.1, Jvm.Cond.initialized al_yX12_openLoop.cls, Jvm.Cond.instanceMethod al_yX12_openLoop, Jvm.Cond.selects al_yX12_openLoop.cls al_yX12_openLoop al_yX12_openLoop], w ∈ lw_tbl
  exact List.forall_mem_cons.mpr ⟨(al_t14 (List.mem_of_getElem? (i := 205) rfl)), List.forall_mem_cons.mpr ⟨(al_t1 (List.mem_of_getElem? (i := 30) (by decide +kernel))), List.forall_mem_cons.mpr ⟨(al_t14 (List.mem_of_getElem? (i := 204) (by decide +kernel))), List.forall_mem_cons.mpr ⟨(al_s (i := 206) (by decide +kernel)), fun _ h => absurd h List.not_mem_nil⟩⟩⟩⟩
set_option maxRecDepth 100000 in
theorem al_wm_X12_closeLoop : ∀ w ∈ ev_blk (ev_unM al_mX12_closeLoop, 0), w ∈ lw_tbl := by
  show ∀ w ∈ [Jvm.Cond.code al_yX12_closeLoop al_mX12_closeLoop.2.1 al_mX12_closeLoop.2.2.1 al_mX12_closeLoop.2.2.2.1, Jvm.Cond.initialized al_yX12_closeLoop.cls, Jvm.Cond.instanceMethod al_yX12_closeLoop, Jvm.Cond.selects al_yX12_closeLoop.cls al_yX12_closeLoop al_yX12_closeLoop], w ∈ lw_tbl
  exact List.forall_mem_cons.mpr ⟨(al_t15 (List.mem_of_getElem? (i := 165) rfl)), List.forall_mem_cons.mpr ⟨(al_t1 (List.mem_of_getElem? (i := 30) (by decide +kernel))), List.forall_mem_cons.mpr ⟨(al_t15 (List.mem_of_getElem? (i := 164) (by decide +kernel))), List.forall_mem_cons.mpr ⟨(al_s (i := 254) (by decide +kernel)), fun _ h => absurd h List.not_mem_nil⟩⟩⟩⟩
set_option maxRecDepth 100000 in
theorem al_wm_X12_readBreak : ∀ w ∈ ev_blk (ev_unM al_mX12_readBreak, 0), w ∈ lw_tbl := by
  show ∀ w ∈ [Jvm.Cond.code al_yX12_readBreak al_mX12_readBreak.2.1 al_mX12_readBreak.2.2.1 al_mX12_readBreak.2.2.2.1, Jvm.Cond.initialized al_yX12_readBreak.cls, Jvm.Cond.instanceMethod al_yX12_readBreak, Jvm.Cond.selects al_yX12_readBreak.cls al_yX12_readBreak al_yX12_readBreak], w ∈ lw_tbl
  exact List.forall_mem_cons.mpr ⟨(al_t15 (List.mem_of_getElem? (i := 17) rfl)), List.forall_mem_cons.mpr ⟨(al_t1 (List.mem_of_getElem? (i := 30) (by decide +kernel))), List.forall_mem_cons.mpr ⟨(al_t15 (List.mem_of_getElem? (i := 16) (by decide +kernel))), List.forall_mem_cons.mpr ⟨(al_s (i := 219) (by decide +kernel)), fun _ h => absurd h List.not_mem_nil⟩⟩⟩⟩
set_option maxRecDepth 100000 in
theorem al_wm_X12_readLocal : ∀ w ∈ ev_blk (ev_unM al_mX12_readLocal, 0), w ∈ lw_tbl := by
  show ∀ w ∈ [Jvm.Cond.code al_yX12_readLocal al_mX12_readLocal.2.1 al_mX12_readLocal.2.2.1 al_mX12_readLocal.2.2.2.1, Jvm.Cond.initialized al_yX12_readLocal.cls, Jvm.Cond.instanceMethod al_yX12_readLocal, Jvm.Cond.selects al_yX12_readLocal.cls al_yX12_readLocal al_yX12_readLocal], w ∈ lw_tbl
  exact List.forall_mem_cons.mpr ⟨(al_t15 (List.mem_of_getElem? (i := 5) rfl)), List.forall_mem_cons.mpr ⟨(al_t1 (List.mem_of_getElem? (i := 30) (by decide +kernel))), List.forall_mem_cons.mpr ⟨(al_t15 (List.mem_of_getElem? (i := 4) (by decide +kernel))), List.forall_mem_cons.mpr ⟨(al_s (i := 216) (by decide +kernel)), fun _ h => absurd h List.not_mem_nil⟩⟩⟩⟩
set_option maxRecDepth 100000 in
theorem al_wm_X12_localRow : ∀ w ∈ ev_blk (ev_unM al_mX12_localRow, 0), w ∈ lw_tbl := by
  show ∀ w ∈ [Jvm.Cond.code al_yX12_localRow al_mX12_localRow.2.1 al_mX12_localRow.2.2.1 al_mX12_localRow.2.2.2.1, Jvm.Cond.initialized al_yX12_localRow.cls, Jvm.Cond.instanceMethod al_yX12_localRow, Jvm.Cond.selects al_yX12_localRow.cls al_yX12_localRow al_yX12_localRow], w ∈ lw_tbl
  exact List.forall_mem_cons.mpr ⟨(al_t15 (List.mem_of_getElem? (i := 13) rfl)), List.forall_mem_cons.mpr ⟨(al_t1 (List.mem_of_getElem? (i := 30) (by decide +kernel))), List.forall_mem_cons.mpr ⟨(al_t15 (List.mem_of_getElem? (i := 12) (by decide +kernel))), List.forall_mem_cons.mpr ⟨(al_s (i := 218) (by decide +kernel)), fun _ h => absurd h List.not_mem_nil⟩⟩⟩⟩
set_option maxRecDepth 100000 in
theorem al_wm_X12_readFunction : ∀ w ∈ ev_blk (ev_unM al_mX12_readFunction, 0), w ∈ lw_tbl := by
  show ∀ w ∈ [Jvm.Cond.code al_yX12_readFunction al_mX12_readFunction.2.1 al_mX12_readFunction.2.2.1 al_mX12_readFunction.2.2.2.1, Jvm.Cond.initialized al_yX12_readFunction.cls, Jvm.Cond.instanceMethod al_yX12_readFunction, Jvm.Cond.selects al_yX12_readFunction.cls al_yX12_readFunction al_yX12_readFunction], w ∈ lw_tbl
  exact List.forall_mem_cons.mpr ⟨(al_t14 (List.mem_of_getElem? (i := 229) rfl)), List.forall_mem_cons.mpr ⟨(al_t1 (List.mem_of_getElem? (i := 30) (by decide +kernel))), List.forall_mem_cons.mpr ⟨(al_t14 (List.mem_of_getElem? (i := 228) (by decide +kernel))), List.forall_mem_cons.mpr ⟨(al_s (i := 212) (by decide +kernel)), fun _ h => absurd h List.not_mem_nil⟩⟩⟩⟩
set_option maxRecDepth 100000 in
theorem al_wm_X12_readFor : ∀ w ∈ ev_blk (ev_unM al_mX12_readFor, 0), w ∈ lw_tbl := by
  show ∀ w ∈ [Jvm.Cond.code al_yX12_readFor al_mX12_readFor.2.1 al_mX12_readFor.2.2.1 al_mX12_readFor.2.2.2.1, Jvm.Cond.initialized al_yX12_readFor.cls, Jvm.Cond.instanceMethod al_yX12_readFor, Jvm.Cond.selects al_yX12_readFor.cls al_yX12_readFor al_yX12_readFor], w ∈ lw_tbl
  exact List.forall_mem_cons.mpr ⟨(al_t14 (List.mem_of_getElem? (i := 213) rfl)), List.forall_mem_cons.mpr ⟨(al_t1 (List.mem_of_getElem? (i := 30) (by decide +kernel))), List.forall_mem_cons.mpr ⟨(al_t14 (List.mem_of_getElem? (i := 212) (by decide +kernel))), List.forall_mem_cons.mpr ⟨(al_s (i := 208) (by decide +kernel)), fun _ h => absurd h List.not_mem_nil⟩⟩⟩⟩
set_option maxRecDepth 100000 in
theorem al_wm_X12_leftOf : ∀ w ∈ ev_blk (ev_unM al_mX12_leftOf, 1), w ∈ lw_tbl := by
  show ∀ w ∈ [Jvm.Cond.code al_yX12_leftOf al_mX12_leftOf.2.1 al_mX12_leftOf.2.2.1 al_mX12_leftOf.2.2.2.1, Jvm.Cond.initialized al_yX12_leftOf.cls, Jvm.Cond.static al_yX12_leftOf], w ∈ lw_tbl
  exact List.forall_mem_cons.mpr ⟨(al_t15 (List.mem_of_getElem? (i := 48) rfl)), List.forall_mem_cons.mpr ⟨(al_t1 (List.mem_of_getElem? (i := 30) (by decide +kernel))), List.forall_mem_cons.mpr ⟨(al_t15 (List.mem_of_getElem? (i := 47) (by decide +kernel))), fun _ h => absurd h List.not_mem_nil⟩⟩⟩
set_option maxRecDepth 100000 in
theorem al_wm_X12_strength : ∀ w ∈ ev_blk (ev_unM al_mX12_strength, 0), w ∈ lw_tbl := by
  show ∀ w ∈ [Jvm.Cond.code al_yX12_strength al_mX12_strength.2.1 al_mX12_strength.2.2.1 al_mX12_strength.2.2.2.1, Jvm.Cond.initialized al_yX12_strength.cls, Jvm.Cond.instanceMethod al_yX12_strength, Jvm.Cond.selects al_yX12_strength.cls al_yX12_strength al_yX12_strength], w ∈ lw_tbl
  exact List.forall_mem_cons.mpr ⟨(al_t15 (List.mem_of_getElem? (i := 45) rfl)), List.forall_mem_cons.mpr ⟨(al_t1 (List.mem_of_getElem? (i := 30) (by decide +kernel))), List.forall_mem_cons.mpr ⟨(al_t15 (List.mem_of_getElem? (i := 44) (by decide +kernel))), List.forall_mem_cons.mpr ⟨(al_s (i := 226) (by decide +kernel)), fun _ h => absurd h List.not_mem_nil⟩⟩⟩⟩
set_option maxRecDepth 100000 in
theorem al_wm_X12_readE : ∀ w ∈ ev_blk (ev_unM al_mX12_readE, 0), w ∈ lw_tbl := by
  show ∀ w ∈ [Jvm.Cond.code al_yX12_readE al_mX12_readE.2.1 al_mX12_readE.2.2.1 al_mX12_readE.2.2.2.1, Jvm.Cond.initialized al_yX12_readE.cls, Jvm.Cond.instanceMethod al_yX12_readE, Jvm.Cond.selects al_yX12_readE.cls al_yX12_readE al_yX12_readE], w ∈ lw_tbl
  exact List.forall_mem_cons.mpr ⟨(al_t15 (List.mem_of_getElem? (i := 25) rfl)), List.forall_mem_cons.mpr ⟨(al_t1 (List.mem_of_getElem? (i := 30) (by decide +kernel))), List.forall_mem_cons.mpr ⟨(al_t15 (List.mem_of_getElem? (i := 24) (by decide +kernel))), List.forall_mem_cons.mpr ⟨(al_s (i := 221) (by decide +kernel)), fun _ h => absurd h List.not_mem_nil⟩⟩⟩⟩
set_option maxRecDepth 100000 in
theorem al_wm_X12_constant : ∀ w ∈ ev_blk (ev_unM al_mX12_constant, 0), w ∈ lw_tbl := by
  show ∀ w ∈ [Jvm.Cond.code al_yX12_constant al_mX12_constant.2.1 al_mX12_constant.2.2.1 al_mX12_constant.2.2.2.1, Jvm.Cond.initialized al_yX12_constant.cls, Jvm.Cond.instanceMethod al_yX12_constant, Jvm.Cond.selects al_yX12_constant.cls al_yX12_constant al_yX12_constant], w ∈ lw_tbl
  exact List.forall_mem_cons.mpr ⟨(al_t15 (List.mem_of_getElem? (i := 33) rfl)), List.forall_mem_cons.mpr ⟨(al_t1 (List.mem_of_getElem? (i := 30) (by decide +kernel))), List.forall_mem_cons.mpr ⟨(al_t15 (List.mem_of_getElem? (i := 32) (by decide +kernel))), List.forall_mem_cons.mpr ⟨(al_s (i := 223) (by decide +kernel)), fun _ h => absurd h List.not_mem_nil⟩⟩⟩⟩
set_option maxRecDepth 100000 in
theorem al_wm_X12_operand : ∀ w ∈ ev_blk (ev_unM al_mX12_operand, 0), w ∈ lw_tbl := by
  show ∀ w ∈ [Jvm.Cond.code al_yX12_operand al_mX12_operand.2.1 al_mX12_operand.2.2.1 al_mX12_operand.2.2.2.1, Jvm.Cond.initialized al_yX12_operand.cls, Jvm.Cond.instanceMethod al_yX12_operand, Jvm.Cond.selects al_yX12_operand.cls al_yX12_operand al_yX12_operand], w ∈ lw_tbl
  exact List.forall_mem_cons.mpr ⟨(al_t15 (List.mem_of_getElem? (i := 29) rfl)), List.forall_mem_cons.mpr ⟨(al_t1 (List.mem_of_getElem? (i := 30) (by decide +kernel))), List.forall_mem_cons.mpr ⟨(al_t15 (List.mem_of_getElem? (i := 28) (by decide +kernel))), List.forall_mem_cons.mpr ⟨(al_s (i := 222) (by decide +kernel)), fun _ h => absurd h List.not_mem_nil⟩⟩⟩⟩
set_option maxRecDepth 100000 in
theorem al_wm_X12_readOps : ∀ w ∈ ev_blk (ev_unM al_mX12_readOps, 0), w ∈ lw_tbl := by
  show ∀ w ∈ [Jvm.Cond.code al_yX12_readOps al_mX12_readOps.2.1 al_mX12_readOps.2.2.1 al_mX12_readOps.2.2.2.1, Jvm.Cond.initialized al_yX12_readOps.cls, Jvm.Cond.instanceMethod al_yX12_readOps, Jvm.Cond.selects al_yX12_readOps.cls al_yX12_readOps al_yX12_readOps], w ∈ lw_tbl
  exact List.forall_mem_cons.mpr ⟨(al_t15 (List.mem_of_getElem? (i := 41) rfl)), List.forall_mem_cons.mpr ⟨(al_t1 (List.mem_of_getElem? (i := 30) (by decide +kernel))), List.forall_mem_cons.mpr ⟨(al_t15 (List.mem_of_getElem? (i := 40) (by decide +kernel))), List.forall_mem_cons.mpr ⟨(al_s (i := 225) (by decide +kernel)), fun _ h => absurd h List.not_mem_nil⟩⟩⟩⟩
set_option maxRecDepth 100000 in
theorem al_wm_X12_eventOf : ∀ w ∈ ev_blk (ev_unM al_mX12_eventOf, 1), w ∈ lw_tbl := by
  show ∀ w ∈ [Jvm.Cond.code al_yX12_eventOf al_mX12_eventOf.2.1 al_mX12_eventOf.2.2.1 al_mX12_eventOf.2.2.2.1, Jvm.Cond.initialized al_yX12_eventOf.cls, Jvm.Cond.static al_yX12_eventOf], w ∈ lw_tbl
  exact List.forall_mem_cons.mpr ⟨(al_t15 (List.mem_of_getElem? (i := 59) rfl)), List.forall_mem_cons.mpr ⟨(al_t1 (List.mem_of_getElem? (i := 30) (by decide +kernel))), List.forall_mem_cons.mpr ⟨(al_t15 (List.mem_of_getElem? (i := 58) (by decide +kernel))), fun _ h => absurd h List.not_mem_nil⟩⟩⟩
set_option maxRecDepth 100000 in
theorem al_wm_X12_binary : ∀ w ∈ ev_blk (ev_unM al_mX12_binary, 0), w ∈ lw_tbl := by
  show ∀ w ∈ [Jvm.Cond.code al_yX12_binary al_mX12_binary.2.1 al_mX12_binary.2.2.1 al_mX12_binary.2.2.2.1, Jvm.Cond.initialized al_yX12_binary.cls, Jvm.Cond.instanceMethod al_yX12_binary, Jvm.Cond.selects al_yX12_binary.cls al_yX12_binary al_yX12_binary], w ∈ lw_tbl
  exact List.forall_mem_cons.mpr ⟨(al_t15 (List.mem_of_getElem? (i := 56) rfl)), List.forall_mem_cons.mpr ⟨(al_t1 (List.mem_of_getElem? (i := 30) (by decide +kernel))), List.forall_mem_cons.mpr ⟨(al_t15 (List.mem_of_getElem? (i := 55) (by decide +kernel))), List.forall_mem_cons.mpr ⟨(al_s (i := 228) (by decide +kernel)), fun _ h => absurd h List.not_mem_nil⟩⟩⟩⟩
set_option maxRecDepth 100000 in
theorem al_wm_X12_unary : ∀ w ∈ ev_blk (ev_unM al_mX12_unary, 0), w ∈ lw_tbl := by
  show ∀ w ∈ [Jvm.Cond.code al_yX12_unary al_mX12_unary.2.1 al_mX12_unary.2.2.1 al_mX12_unary.2.2.2.1, Jvm.Cond.initialized al_yX12_unary.cls, Jvm.Cond.instanceMethod al_yX12_unary, Jvm.Cond.selects al_yX12_unary.cls al_yX12_unary al_yX12_unary], w ∈ lw_tbl
  exact List.forall_mem_cons.mpr ⟨(al_t15 (List.mem_of_getElem? (i := 52) rfl)), List.forall_mem_cons.mpr ⟨(al_t1 (List.mem_of_getElem? (i := 30) (by decide +kernel))), List.forall_mem_cons.mpr ⟨(al_t15 (List.mem_of_getElem? (i := 51) (by decide +kernel))), List.forall_mem_cons.mpr ⟨(al_s (i := 227) (by decide +kernel)), fun _ h => absurd h List.not_mem_nil⟩⟩⟩⟩
set_option maxRecDepth 100000 in
theorem al_wm_X12_chain : ∀ w ∈ ev_blk (ev_unM al_mX12_chain, 0), w ∈ lw_tbl := by
  show ∀ w ∈ [Jvm.Cond.code al_yX12_chain al_mX12_chain.2.1 al_mX12_chain.2.2.1 al_mX12_chain.2.2.2.1, Jvm.Cond.initialized al_yX12_chain.cls, Jvm.Cond.instanceMethod al_yX12_chain, Jvm.Cond.selects al_yX12_chain.cls al_yX12_chain al_yX12_chain], w ∈ lw_tbl
  exact List.forall_mem_cons.mpr ⟨(al_t15 (List.mem_of_getElem? (i := 63) rfl)), List.forall_mem_cons.mpr ⟨(al_t1 (List.mem_of_getElem? (i := 30) (by decide +kernel))), List.forall_mem_cons.mpr ⟨(al_t15 (List.mem_of_getElem? (i := 62) (by decide +kernel))), List.forall_mem_cons.mpr ⟨(al_s (i := 229) (by decide +kernel)), fun _ h => absurd h List.not_mem_nil⟩⟩⟩⟩
set_option maxRecDepth 100000 in
theorem al_wm_X12_beginsGiven : ∀ w ∈ ev_blk (ev_unM al_mX12_beginsGiven, 0), w ∈ lw_tbl := by
  show ∀ w ∈ [Jvm.Cond.code al_yX12_beginsGiven al_mX12_beginsGiven.2.1 al_mX12_beginsGiven.2.2.1 al_mX12_beginsGiven.2.2.2.1, Jvm.Cond.initialized al_yX12_beginsGiven.cls, Jvm.Cond.instanceMethod al_yX12_beginsGiven, Jvm.Cond.selects al_yX12_beginsGiven.cls al_yX12_beginsGiven al_yX12_beginsGiven], w ∈ lw_tbl
  exact List.forall_mem_cons.mpr ⟨(al_t15 (List.mem_of_getElem? (i := 71) rfl)), List.forall_mem_cons.mpr ⟨(al_t1 (List.mem_of_getElem? (i := 30) (by decide +kernel))), List.forall_mem_cons.mpr ⟨(al_t15 (List.mem_of_getElem? (i := 70) (by decide +kernel))), List.forall_mem_cons.mpr ⟨(al_s (i := 231) (by decide +kernel)), fun _ h => absurd h List.not_mem_nil⟩⟩⟩⟩
set_option maxRecDepth 100000 in
theorem al_wm_X12_suffix : ∀ w ∈ ev_blk (ev_unM al_mX12_suffix, 0), w ∈ lw_tbl := by
  show ∀ w ∈ [Jvm.Cond.code al_yX12_suffix al_mX12_suffix.2.1 al_mX12_suffix.2.2.1 al_mX12_suffix.2.2.2.1, Jvm.Cond.initialized al_yX12_suffix.cls, Jvm.Cond.instanceMethod al_yX12_suffix, Jvm.Cond.selects al_yX12_suffix.cls al_yX12_suffix al_yX12_suffix], w ∈ lw_tbl
  exact List.forall_mem_cons.mpr ⟨(al_t15 (List.mem_of_getElem? (i := 67) rfl)), List.forall_mem_cons.mpr ⟨(al_t1 (List.mem_of_getElem? (i := 30) (by decide +kernel))), List.forall_mem_cons.mpr ⟨(al_t15 (List.mem_of_getElem? (i := 66) (by decide +kernel))), List.forall_mem_cons.mpr ⟨(al_s (i := 230) (by decide +kernel)), fun _ h => absurd h List.not_mem_nil⟩⟩⟩⟩
set_option maxRecDepth 100000 in
theorem al_wm_X12_given : ∀ w ∈ ev_blk (ev_unM al_mX12_given, 0), w ∈ lw_tbl := by
  show ∀ w ∈ [Jvm.Cond.code al_yX12_given al_mX12_given.2.1 al_mX12_given.2.2.1 al_mX12_given.2.2.2.1, Jvm.Cond.initialized al_yX12_given.cls, Jvm.Cond.instanceMethod al_yX12_given, Jvm.Cond.selects al_yX12_given.cls al_yX12_given al_yX12_given], w ∈ lw_tbl
  exact List.forall_mem_cons.mpr ⟨(al_t15 (List.mem_of_getElem? (i := 75) rfl)), List.forall_mem_cons.mpr ⟨(al_t1 (List.mem_of_getElem? (i := 30) (by decide +kernel))), List.forall_mem_cons.mpr ⟨(al_t15 (List.mem_of_getElem? (i := 74) (by decide +kernel))), List.forall_mem_cons.mpr ⟨(al_s (i := 232) (by decide +kernel)), fun _ h => absurd h List.not_mem_nil⟩⟩⟩⟩
set_option maxRecDepth 100000 in
theorem al_wm_X12_row : ∀ w ∈ ev_blk (ev_unM al_mX12_row, 0), w ∈ lw_tbl := by
  show ∀ w ∈ [Jvm.Cond.code al_yX12_row al_mX12_row.2.1 al_mX12_row.2.2.1 al_mX12_row.2.2.2.1, Jvm.Cond.initialized al_yX12_row.cls, Jvm.Cond.instanceMethod al_yX12_row, Jvm.Cond.selects al_yX12_row.cls al_yX12_row al_yX12_row], w ∈ lw_tbl
  exact List.forall_mem_cons.mpr ⟨(al_t15 (List.mem_of_getElem? (i := 99) rfl)), List.forall_mem_cons.mpr ⟨(al_t1 (List.mem_of_getElem? (i := 30) (by decide +kernel))), List.forall_mem_cons.mpr ⟨(al_t15 (List.mem_of_getElem? (i := 98) (by decide +kernel))), List.forall_mem_cons.mpr ⟨(al_s (i := 238) (by decide +kernel)), fun _ h => absurd h List.not_mem_nil⟩⟩⟩⟩
set_option maxRecDepth 100000 in
theorem al_wm_X12_table : ∀ w ∈ ev_blk (ev_unM al_mX12_table, 0), w ∈ lw_tbl := by
  show ∀ w ∈ [Jvm.Cond.code al_yX12_table al_mX12_table.2.1 al_mX12_table.2.2.1 al_mX12_table.2.2.2.1, Jvm.Cond.initialized al_yX12_table.cls, Jvm.Cond.instanceMethod al_yX12_table, Jvm.Cond.selects al_yX12_table.cls al_yX12_table al_yX12_table], w ∈ lw_tbl
  exact List.forall_mem_cons.mpr ⟨(al_t15 (List.mem_of_getElem? (i := 37) rfl)), List.forall_mem_cons.mpr ⟨(al_t1 (List.mem_of_getElem? (i := 30) (by decide +kernel))), List.forall_mem_cons.mpr ⟨(al_t15 (List.mem_of_getElem? (i := 36) (by decide +kernel))), List.forall_mem_cons.mpr ⟨(al_s (i := 224) (by decide +kernel)), fun _ h => absurd h List.not_mem_nil⟩⟩⟩⟩
set_option maxRecDepth 100000 in
theorem al_wm_X12_fields : ∀ w ∈ ev_blk (ev_unM al_mX12_fields, 0), w ∈ lw_tbl := by
  show ∀ w ∈ [Jvm.Cond.code al_yX12_fields al_mX12_fields.2.1 al_mX12_fields.2.2.1 al_mX12_fields.2.2.2.1, Jvm.Cond.initialized al_yX12_fields.cls, Jvm.Cond.instanceMethod al_yX12_fields, Jvm.Cond.selects al_yX12_fields.cls al_yX12_fields al_yX12_fields], w ∈ lw_tbl
  exact List.forall_mem_cons.mpr ⟨(al_t15 (List.mem_of_getElem? (i := 103) rfl)), List.forall_mem_cons.mpr ⟨(al_t1 (List.mem_of_getElem? (i := 30) (by decide +kernel))), List.forall_mem_cons.mpr ⟨(al_t15 (List.mem_of_getElem? (i := 102) (by decide +kernel))), List.forall_mem_cons.mpr ⟨(al_s (i := 239) (by decide +kernel)), fun _ h => absurd h List.not_mem_nil⟩⟩⟩⟩
set_option maxRecDepth 100000 in
theorem al_wm_X12_isParting : ∀ w ∈ ev_blk (ev_unM al_mX12_isParting, 0), w ∈ lw_tbl := by
  show ∀ w ∈ [Jvm.Cond.code al_yX12_isParting al_mX12_isParting.2.1 al_mX12_isParting.2.2.1 al_mX12_isParting.2.2.2.1, Jvm.Cond.initialized al_yX12_isParting.cls, Jvm.Cond.instanceMethod al_yX12_isParting, Jvm.Cond.selects al_yX12_isParting.cls al_yX12_isParting al_yX12_isParting], w ∈ lw_tbl
  exact List.forall_mem_cons.mpr ⟨(al_t15 (List.mem_of_getElem? (i := 112) rfl)), List.forall_mem_cons.mpr ⟨(al_t1 (List.mem_of_getElem? (i := 30) (by decide +kernel))), List.forall_mem_cons.mpr ⟨(al_t15 (List.mem_of_getElem? (i := 111) (by decide +kernel))), List.forall_mem_cons.mpr ⟨(al_s (i := 241) (by decide +kernel)), fun _ h => absurd h List.not_mem_nil⟩⟩⟩⟩
set_option maxRecDepth 100000 in
theorem al_wm_X12_keyed : ∀ w ∈ ev_blk (ev_unM al_mX12_keyed, 0), w ∈ lw_tbl := by
  show ∀ w ∈ [Jvm.Cond.code al_yX12_keyed al_mX12_keyed.2.1 al_mX12_keyed.2.2.1 al_mX12_keyed.2.2.2.1, Jvm.Cond.initialized al_yX12_keyed.cls, Jvm.Cond.instanceMethod al_yX12_keyed, Jvm.Cond.selects al_yX12_keyed.cls al_yX12_keyed al_yX12_keyed], w ∈ lw_tbl
  exact List.forall_mem_cons.mpr ⟨(al_t15 (List.mem_of_getElem? (i := 108) rfl)), List.forall_mem_cons.mpr ⟨(al_t1 (List.mem_of_getElem? (i := 30) (by decide +kernel))), List.forall_mem_cons.mpr ⟨(al_t15 (List.mem_of_getElem? (i := 107) (by decide +kernel))), List.forall_mem_cons.mpr ⟨(al_s (i := 240) (by decide +kernel)), fun _ h => absurd h List.not_mem_nil⟩⟩⟩⟩
set_option maxRecDepth 100000 in
theorem al_wm_X12_positional : ∀ w ∈ ev_blk (ev_unM al_mX12_positional, 0), w ∈ lw_tbl := by
  show ∀ w ∈ [Jvm.Cond.code al_yX12_positional al_mX12_positional.2.1 al_mX12_positional.2.2.1 al_mX12_positional.2.2.2.1, Jvm.Cond.initialized al_yX12_positional.cls, Jvm.Cond.instanceMethod al_yX12_positional, Jvm.Cond.selects al_yX12_positional.cls al_yX12_positional al_yX12_positional], w ∈ lw_tbl
  exact List.forall_mem_cons.mpr ⟨(al_t15 (List.mem_of_getElem? (i := 116) rfl)), List.forall_mem_cons.mpr ⟨(al_t1 (List.mem_of_getElem? (i := 30) (by decide +kernel))), List.forall_mem_cons.mpr ⟨(al_t15 (List.mem_of_getElem? (i := 115) (by decide +kernel))), List.forall_mem_cons.mpr ⟨(al_s (i := 242) (by decide +kernel)), fun _ h => absurd h List.not_mem_nil⟩⟩⟩⟩
set_option maxRecDepth 100000 in
theorem al_wm_X12_body : ∀ w ∈ ev_blk (ev_unM al_mX12_body, 0), w ∈ lw_tbl := by
  show ∀ w ∈ [Jvm.Cond.code al_yX12_body al_mX12_body.2.1 al_mX12_body.2.2.1 al_mX12_body.2.2.2.1, Jvm.Cond.initialized al_yX12_body.cls, Jvm.Cond.instanceMethod al_yX12_body, Jvm.Cond.selects al_yX12_body.cls al_yX12_body al_yX12_body], w ∈ lw_tbl
  exact List.forall_mem_cons.mpr ⟨(al_t15 (List.mem_of_getElem? (i := 120) rfl)), List.forall_mem_cons.mpr ⟨(al_t1 (List.mem_of_getElem? (i := 30) (by decide +kernel))), List.forall_mem_cons.mpr ⟨(al_t15 (List.mem_of_getElem? (i := 119) (by decide +kernel))), List.forall_mem_cons.mpr ⟨(al_s (i := 243) (by decide +kernel)), fun _ h => absurd h List.not_mem_nil⟩⟩⟩⟩
set_option maxRecDepth 100000 in
theorem al_wm_X12_parameters : ∀ w ∈ ev_blk (ev_unM al_mX12_parameters, 0), w ∈ lw_tbl := by
  show ∀ w ∈ [Jvm.Cond.code al_yX12_parameters al_mX12_parameters.2.1 al_mX12_parameters.2.2.1 al_mX12_parameters.2.2.2.1, Jvm.Cond.initialized al_yX12_parameters.cls, Jvm.Cond.instanceMethod al_yX12_parameters, Jvm.Cond.selects al_yX12_parameters.cls al_yX12_parameters al_yX12_parameters], w ∈ lw_tbl
  exact List.forall_mem_cons.mpr ⟨(al_t15 (List.mem_of_getElem? (i := 125) rfl)), List.forall_mem_cons.mpr ⟨(al_t1 (List.mem_of_getElem? (i := 30) (by decide +kernel))), List.forall_mem_cons.mpr ⟨(al_t15 (List.mem_of_getElem? (i := 124) (by decide +kernel))), List.forall_mem_cons.mpr ⟨(al_s (i := 244) (by decide +kernel)), fun _ h => absurd h List.not_mem_nil⟩⟩⟩⟩
set_option maxRecDepth 100000 in
theorem al_wm_X12_bodyEnd : ∀ w ∈ ev_blk (ev_unM al_mX12_bodyEnd, 0), w ∈ lw_tbl := by
  show ∀ w ∈ [Jvm.Cond.code al_yX12_bodyEnd al_mX12_bodyEnd.2.1 al_mX12_bodyEnd.2.2.1 al_mX12_bodyEnd.2.2.2.1, Jvm.Cond.initialized al_yX12_bodyEnd.cls, Jvm.Cond.instanceMethod al_yX12_bodyEnd, Jvm.Cond.selects al_yX12_bodyEnd.cls al_yX12_bodyEnd al_yX12_bodyEnd], w ∈ lw_tbl
  exact List.forall_mem_cons.mpr ⟨(al_t15 (List.mem_of_getElem? (i := 129) rfl)), List.forall_mem_cons.mpr ⟨(al_t1 (List.mem_of_getElem? (i := 30) (by decide +kernel))), List.forall_mem_cons.mpr ⟨(al_t15 (List.mem_of_getElem? (i := 128) (by decide +kernel))), List.forall_mem_cons.mpr ⟨(al_s (i := 245) (by decide +kernel)), fun _ h => absurd h List.not_mem_nil⟩⟩⟩⟩
set_option maxRecDepth 100000 in
theorem al_wm_X12_afterChain : ∀ w ∈ ev_blk (ev_unM al_mX12_afterChain, 0), w ∈ lw_tbl := by
  show ∀ w ∈ [Jvm.Cond.code al_yX12_afterChain al_mX12_afterChain.2.1 al_mX12_afterChain.2.2.1 al_mX12_afterChain.2.2.2.1, Jvm.Cond.initialized al_yX12_afterChain.cls, Jvm.Cond.instanceMethod al_yX12_afterChain, Jvm.Cond.selects al_yX12_afterChain.cls al_yX12_afterChain al_yX12_afterChain], w ∈ lw_tbl
  exact List.forall_mem_cons.mpr ⟨(al_t15 (List.mem_of_getElem? (i := 137) rfl)), List.forall_mem_cons.mpr ⟨(al_t1 (List.mem_of_getElem? (i := 30) (by decide +kernel))), List.forall_mem_cons.mpr ⟨(al_t15 (List.mem_of_getElem? (i := 136) (by decide +kernel))), List.forall_mem_cons.mpr ⟨(al_s (i := 247) (by decide +kernel)), fun _ h => absurd h List.not_mem_nil⟩⟩⟩⟩
set_option maxRecDepth 100000 in
theorem al_wm_X12_assign : ∀ w ∈ ev_blk (ev_unM al_mX12_assign, 0), w ∈ lw_tbl := by
  show ∀ w ∈ [Jvm.Cond.code al_yX12_assign al_mX12_assign.2.1 al_mX12_assign.2.2.1 al_mX12_assign.2.2.2.1, Jvm.Cond.initialized al_yX12_assign.cls, Jvm.Cond.instanceMethod al_yX12_assign, Jvm.Cond.selects al_yX12_assign.cls al_yX12_assign al_yX12_assign], w ∈ lw_tbl
  exact List.forall_mem_cons.mpr ⟨(al_t15 (List.mem_of_getElem? (i := 141) rfl)), List.forall_mem_cons.mpr ⟨(al_t1 (List.mem_of_getElem? (i := 30) (by decide +kernel))), List.forall_mem_cons.mpr ⟨(al_t15 (List.mem_of_getElem? (i := 140) (by decide +kernel))), List.forall_mem_cons.mpr ⟨(al_s (i := 248) (by decide +kernel)), fun _ h => absurd h List.not_mem_nil⟩⟩⟩⟩
set_option maxRecDepth 100000 in
theorem al_wm_X12_then : ∀ w ∈ ev_blk (ev_unM al_mX12_then, 0), w ∈ lw_tbl := by
  show ∀ w ∈ [Jvm.Cond.code al_yX12_then al_mX12_then.2.1 al_mX12_then.2.2.1 al_mX12_then.2.2.2.1, Jvm.Cond.initialized al_yX12_then.cls, Jvm.Cond.instanceMethod al_yX12_then, Jvm.Cond.selects al_yX12_then.cls al_yX12_then al_yX12_then], w ∈ lw_tbl
  exact List.forall_mem_cons.mpr ⟨(al_t15 (List.mem_of_getElem? (i := 145) rfl)), List.forall_mem_cons.mpr ⟨(al_t1 (List.mem_of_getElem? (i := 30) (by decide +kernel))), List.forall_mem_cons.mpr ⟨(al_t15 (List.mem_of_getElem? (i := 144) (by decide +kernel))), List.forall_mem_cons.mpr ⟨(al_s (i := 249) (by decide +kernel)), fun _ h => absurd h List.not_mem_nil⟩⟩⟩⟩
set_option maxRecDepth 100000 in
theorem al_wm_X12_afterIf : ∀ w ∈ ev_blk (ev_unM al_mX12_afterIf, 0), w ∈ lw_tbl := by
  show ∀ w ∈ [Jvm.Cond.code al_yX12_afterIf al_mX12_afterIf.2.1 al_mX12_afterIf.2.2.1 al_mX12_afterIf.2.2.2.1, Jvm.Cond.initialized al_yX12_afterIf.cls, Jvm.Cond.instanceMethod al_yX12_afterIf, Jvm.Cond.selects al_yX12_afterIf.cls al_yX12_afterIf al_yX12_afterIf], w ∈ lw_tbl
  exact List.forall_mem_cons.mpr ⟨(al_t15 (List.mem_of_getElem? (i := 149) rfl)), List.forall_mem_cons.mpr ⟨(al_t1 (List.mem_of_getElem? (i := 30) (by decide +kernel))), List.forall_mem_cons.mpr ⟨(al_t15 (List.mem_of_getElem? (i := 148) (by decide +kernel))), List.forall_mem_cons.mpr ⟨(al_s (i := 250) (by decide +kernel)), fun _ h => absurd h List.not_mem_nil⟩⟩⟩⟩
set_option maxRecDepth 100000 in
theorem al_wm_X12_endIf : ∀ w ∈ ev_blk (ev_unM al_mX12_endIf, 0), w ∈ lw_tbl := by
  show ∀ w ∈ [Jvm.Cond.code al_yX12_endIf al_mX12_endIf.2.1 al_mX12_endIf.2.2.1 al_mX12_endIf.2.2.2.1, Jvm.Cond.initialized al_yX12_endIf.cls, Jvm.Cond.instanceMethod al_yX12_endIf, Jvm.Cond.selects al_yX12_endIf.cls al_yX12_endIf al_yX12_endIf], w ∈ lw_tbl
  exact List.forall_mem_cons.mpr ⟨(al_t15 (List.mem_of_getElem? (i := 153) rfl)), List.forall_mem_cons.mpr ⟨(al_t1 (List.mem_of_getElem? (i := 30) (by decide +kernel))), List.forall_mem_cons.mpr ⟨(al_t15 (List.mem_of_getElem? (i := 152) (by decide +kernel))), List.forall_mem_cons.mpr ⟨(al_s (i := 251) (by decide +kernel)), fun _ h => absurd h List.not_mem_nil⟩⟩⟩⟩
set_option maxRecDepth 100000 in
theorem al_wm_X12_whileDo : ∀ w ∈ ev_blk (ev_unM al_mX12_whileDo, 0), w ∈ lw_tbl := by
  show ∀ w ∈ [Jvm.Cond.code al_yX12_whileDo al_mX12_whileDo.2.1 al_mX12_whileDo.2.2.1 al_mX12_whileDo.2.2.2.1, Jvm.Cond.initialized al_yX12_whileDo.cls, Jvm.Cond.instanceMethod al_yX12_whileDo, Jvm.Cond.selects al_yX12_whileDo.cls al_yX12_whileDo al_yX12_whileDo], w ∈ lw_tbl
  exact List.forall_mem_cons.mpr ⟨(al_t15 (List.mem_of_getElem? (i := 157) rfl)), List.forall_mem_cons.mpr ⟨(al_t1 (List.mem_of_getElem? (i := 30) (by decide +kernel))), List.forall_mem_cons.mpr ⟨(al_t15 (List.mem_of_getElem? (i := 156) (by decide +kernel))), List.forall_mem_cons.mpr ⟨(al_s (i := 252) (by decide +kernel)), fun _ h => absurd h List.not_mem_nil⟩⟩⟩⟩
set_option maxRecDepth 100000 in
theorem al_wm_X12_whileEnd : ∀ w ∈ ev_blk (ev_unM al_mX12_whileEnd, 0), w ∈ lw_tbl := by
  show ∀ w ∈ [Jvm.Cond.code al_yX12_whileEnd al_mX12_whileEnd.2.1 al_mX12_whileEnd.2.2.1 al_mX12_whileEnd.2.2.2.1, Jvm.Cond.initialized al_yX12_whileEnd.cls, Jvm.Cond.instanceMethod al_yX12_whileEnd, Jvm.Cond.selects al_yX12_whileEnd.cls al_yX12_whileEnd al_yX12_whileEnd], w ∈ lw_tbl
  exact List.forall_mem_cons.mpr ⟨(al_t15 (List.mem_of_getElem? (i := 161) rfl)), List.forall_mem_cons.mpr ⟨(al_t1 (List.mem_of_getElem? (i := 30) (by decide +kernel))), List.forall_mem_cons.mpr ⟨(al_t15 (List.mem_of_getElem? (i := 160) (by decide +kernel))), List.forall_mem_cons.mpr ⟨(al_s (i := 253) (by decide +kernel)), fun _ h => absurd h List.not_mem_nil⟩⟩⟩⟩
set_option maxRecDepth 100000 in
theorem al_wm_X12_until : ∀ w ∈ ev_blk (ev_unM al_mX12_until, 0), w ∈ lw_tbl := by
  show ∀ w ∈ [Jvm.Cond.code al_yX12_until al_mX12_until.2.1 al_mX12_until.2.2.1 al_mX12_until.2.2.2.1, Jvm.Cond.initialized al_yX12_until.cls, Jvm.Cond.instanceMethod al_yX12_until, Jvm.Cond.selects al_yX12_until.cls al_yX12_until al_yX12_until], w ∈ lw_tbl
  exact List.forall_mem_cons.mpr ⟨(al_t15 (List.mem_of_getElem? (i := 169) rfl)), List.forall_mem_cons.mpr ⟨(al_t1 (List.mem_of_getElem? (i := 30) (by decide +kernel))), List.forall_mem_cons.mpr ⟨(al_t15 (List.mem_of_getElem? (i := 168) (by decide +kernel))), List.forall_mem_cons.mpr ⟨(al_s (i := 255) (by decide +kernel)), fun _ h => absurd h List.not_mem_nil⟩⟩⟩⟩
set_option maxRecDepth 100000 in
theorem al_wm_X12_untilEnd : ∀ w ∈ ev_blk (ev_unM al_mX12_untilEnd, 0), w ∈ lw_tbl := by
  show ∀ w ∈ [Jvm.Cond.code al_yX12_untilEnd al_mX12_untilEnd.2.1 al_mX12_untilEnd.2.2.1 al_mX12_untilEnd.2.2.2.1, Jvm.Cond.initialized al_yX12_untilEnd.cls, Jvm.Cond.instanceMethod al_yX12_untilEnd, Jvm.Cond.selects al_yX12_untilEnd.cls al_yX12_untilEnd al_yX12_untilEnd], w ∈ lw_tbl
  exact List.forall_mem_cons.mpr ⟨(al_t15 (List.mem_of_getElem? (i := 173) rfl)), List.forall_mem_cons.mpr ⟨(al_t1 (List.mem_of_getElem? (i := 30) (by decide +kernel))), List.forall_mem_cons.mpr ⟨(al_t15 (List.mem_of_getElem? (i := 172) (by decide +kernel))), List.forall_mem_cons.mpr ⟨(al_s (i := 256) (by decide +kernel)), fun _ h => absurd h List.not_mem_nil⟩⟩⟩⟩
set_option maxRecDepth 100000 in
theorem al_wm_X12_forTwo : ∀ w ∈ ev_blk (ev_unM al_mX12_forTwo, 0), w ∈ lw_tbl := by
  show ∀ w ∈ [Jvm.Cond.code al_yX12_forTwo al_mX12_forTwo.2.1 al_mX12_forTwo.2.2.1 al_mX12_forTwo.2.2.2.1, Jvm.Cond.initialized al_yX12_forTwo.cls, Jvm.Cond.instanceMethod al_yX12_forTwo, Jvm.Cond.selects al_yX12_forTwo.cls al_yX12_forTwo al_yX12_forTwo], w ∈ lw_tbl
  exact List.forall_mem_cons.mpr ⟨(al_t15 (List.mem_of_getElem? (i := 177) rfl)), List.forall_mem_cons.mpr ⟨(al_t1 (List.mem_of_getElem? (i := 30) (by decide +kernel))), List.forall_mem_cons.mpr ⟨(al_t15 (List.mem_of_getElem? (i := 176) (by decide +kernel))), List.forall_mem_cons.mpr ⟨(al_s (i := 257) (by decide +kernel)), fun _ h => absurd h List.not_mem_nil⟩⟩⟩⟩
set_option maxRecDepth 100000 in
theorem al_wm_X12_forThree : ∀ w ∈ ev_blk (ev_unM al_mX12_forThree, 0), w ∈ lw_tbl := by
  show ∀ w ∈ [Jvm.Cond.code al_yX12_forThree al_mX12_forThree.2.1 al_mX12_forThree.2.2.1 al_mX12_forThree.2.2.2.1, Jvm.Cond.initialized al_yX12_forThree.cls, Jvm.Cond.instanceMethod al_yX12_forThree, Jvm.Cond.selects al_yX12_forThree.cls al_yX12_forThree al_yX12_forThree], w ∈ lw_tbl
  exact List.forall_mem_cons.mpr ⟨(al_t15 (List.mem_of_getElem? (i := 181) rfl)), List.forall_mem_cons.mpr ⟨(al_t1 (List.mem_of_getElem? (i := 30) (by decide +kernel))), List.forall_mem_cons.mpr ⟨(al_t15 (List.mem_of_getElem? (i := 180) (by decide +kernel))), List.forall_mem_cons.mpr ⟨(al_s (i := 258) (by decide +kernel)), fun _ h => absurd h List.not_mem_nil⟩⟩⟩⟩
set_option maxRecDepth 100000 in
theorem al_wm_X12_forDo : ∀ w ∈ ev_blk (ev_unM al_mX12_forDo, 0), w ∈ lw_tbl := by
  show ∀ w ∈ [Jvm.Cond.code al_yX12_forDo al_mX12_forDo.2.1 al_mX12_forDo.2.2.1 al_mX12_forDo.2.2.2.1, Jvm.Cond.initialized al_yX12_forDo.cls, Jvm.Cond.instanceMethod al_yX12_forDo, Jvm.Cond.selects al_yX12_forDo.cls al_yX12_forDo al_yX12_forDo], w ∈ lw_tbl
  exact List.forall_mem_cons.mpr ⟨(al_t15 (List.mem_of_getElem? (i := 185) rfl)), List.forall_mem_cons.mpr ⟨(al_t1 (List.mem_of_getElem? (i := 30) (by decide +kernel))), List.forall_mem_cons.mpr ⟨(al_t15 (List.mem_of_getElem? (i := 184) (by decide +kernel))), List.forall_mem_cons.mpr ⟨(al_s (i := 259) (by decide +kernel)), fun _ h => absurd h List.not_mem_nil⟩⟩⟩⟩
set_option maxRecDepth 100000 in
theorem al_wm_X12_forEnd : ∀ w ∈ ev_blk (ev_unM al_mX12_forEnd, 0), w ∈ lw_tbl := by
  show ∀ w ∈ [Jvm.Cond.code al_yX12_forEnd al_mX12_forEnd.2.1 al_mX12_forEnd.2.2.1 al_mX12_forEnd.2.2.2.1, Jvm.Cond.initialized al_yX12_forEnd.cls, Jvm.Cond.instanceMethod al_yX12_forEnd, Jvm.Cond.selects al_yX12_forEnd.cls al_yX12_forEnd al_yX12_forEnd], w ∈ lw_tbl
  exact List.forall_mem_cons.mpr ⟨(al_t15 (List.mem_of_getElem? (i := 189) rfl)), List.forall_mem_cons.mpr ⟨(al_t1 (List.mem_of_getElem? (i := 30) (by decide +kernel))), List.forall_mem_cons.mpr ⟨(al_t15 (List.mem_of_getElem? (i := 188) (by decide +kernel))), List.forall_mem_cons.mpr ⟨(al_s (i := 260) (by decide +kernel)), fun _ h => absurd h List.not_mem_nil⟩⟩⟩⟩
set_option maxRecDepth 100000 in
theorem al_wm_X12_inDo : ∀ w ∈ ev_blk (ev_unM al_mX12_inDo, 0), w ∈ lw_tbl := by
  show ∀ w ∈ [Jvm.Cond.code al_yX12_inDo al_mX12_inDo.2.1 al_mX12_inDo.2.2.1 al_mX12_inDo.2.2.2.1, Jvm.Cond.initialized al_yX12_inDo.cls, Jvm.Cond.instanceMethod al_yX12_inDo, Jvm.Cond.selects al_yX12_inDo.cls al_yX12_inDo al_yX12_inDo], w ∈ lw_tbl
  exact List.forall_mem_cons.mpr ⟨(al_t15 (List.mem_of_getElem? (i := 193) rfl)), List.forall_mem_cons.mpr ⟨(al_t1 (List.mem_of_getElem? (i := 30) (by decide +kernel))), List.forall_mem_cons.mpr ⟨(al_t15 (List.mem_of_getElem? (i := 192) (by decide +kernel))), List.forall_mem_cons.mpr ⟨(al_s (i := 261) (by decide +kernel)), fun _ h => absurd h List.not_mem_nil⟩⟩⟩⟩
set_option maxRecDepth 100000 in
theorem al_wm_X12_inEnd : ∀ w ∈ ev_blk (ev_unM al_mX12_inEnd, 0), w ∈ lw_tbl := by
  show ∀ w ∈ [Jvm.Cond.code al_yX12_inEnd al_mX12_inEnd.2.1 al_mX12_inEnd.2.2.1 al_mX12_inEnd.2.2.2.1, Jvm.Cond.initialized al_yX12_inEnd.cls, Jvm.Cond.instanceMethod al_yX12_inEnd, Jvm.Cond.selects al_yX12_inEnd.cls al_yX12_inEnd al_yX12_inEnd], w ∈ lw_tbl
  exact List.forall_mem_cons.mpr ⟨(al_t15 (List.mem_of_getElem? (i := 197) rfl)), List.forall_mem_cons.mpr ⟨(al_t1 (List.mem_of_getElem? (i := 30) (by decide +kernel))), List.forall_mem_cons.mpr ⟨(al_t15 (List.mem_of_getElem? (i := 196) (by decide +kernel))), List.forall_mem_cons.mpr ⟨(al_s (i := 262) (by decide +kernel)), fun _ h => absurd h List.not_mem_nil⟩⟩⟩⟩
set_option maxRecDepth 100000 in
theorem al_wm_X12_returned : ∀ w ∈ ev_blk (ev_unM al_mX12_returned, 0), w ∈ lw_tbl := by
  show ∀ w ∈ [Jvm.Cond.code al_yX12_returned al_mX12_returned.2.1 al_mX12_returned.2.2.1 al_mX12_returned.2.2.2.1, Jvm.Cond.initialized al_yX12_returned.cls, Jvm.Cond.instanceMethod al_yX12_returned, Jvm.Cond.selects al_yX12_returned.cls al_yX12_returned al_yX12_returned], w ∈ lw_tbl
  exact List.forall_mem_cons.mpr ⟨(al_t15 (List.mem_of_getElem? (i := 201) rfl)), List.forall_mem_cons.mpr ⟨(al_t1 (List.mem_of_getElem? (i := 30) (by decide +kernel))), List.forall_mem_cons.mpr ⟨(al_t15 (List.mem_of_getElem? (i := 200) (by decide +kernel))), List.forall_mem_cons.mpr ⟨(al_s (i := 263) (by decide +kernel)), fun _ h => absurd h List.not_mem_nil⟩⟩⟩⟩
set_option maxRecDepth 100000 in
theorem al_wm_X12_functionDone : ∀ w ∈ ev_blk (ev_unM al_mX12_functionDone, 0), w ∈ lw_tbl := by
  show ∀ w ∈ [Jvm.Cond.code al_yX12_functionDone al_mX12_functionDone.2.1 al_mX12_functionDone.2.2.1 al_mX12_functionDone.2.2.2.1, Jvm.Cond.initialized al_yX12_functionDone.cls, Jvm.Cond.instanceMethod al_yX12_functionDone, Jvm.Cond.selects al_yX12_functionDone.cls al_yX12_functionDone al_yX12_functionDone], w ∈ lw_tbl
  exact List.forall_mem_cons.mpr ⟨(al_t15 (List.mem_of_getElem? (i := 205) rfl)), List.forall_mem_cons.mpr ⟨(al_t1 (List.mem_of_getElem? (i := 30) (by decide +kernel))), List.forall_mem_cons.mpr ⟨(al_t15 (List.mem_of_getElem? (i := 204) (by decide +kernel))), List.forall_mem_cons.mpr ⟨(al_s (i := 264) (by decide +kernel)), fun _ h => absurd h List.not_mem_nil⟩⟩⟩⟩
set_option maxRecDepth 100000 in
theorem al_wm_X12_closeParen : ∀ w ∈ ev_blk (ev_unM al_mX12_closeParen, 0), w ∈ lw_tbl := by
  show ∀ w ∈ [Jvm.Cond.code al_yX12_closeParen al_mX12_closeParen.2.1 al_mX12_closeParen.2.2.1 al_mX12_closeParen.2.2.2.1, Jvm.Cond.initialized al_yX12_closeParen.cls, Jvm.Cond.instanceMethod al_yX12_closeParen, Jvm.Cond.selects al_yX12_closeParen.cls al_yX12_closeParen al_yX12_closeParen], w ∈ lw_tbl
  exact List.forall_mem_cons.mpr ⟨(al_t15 (List.mem_of_getElem? (i := 79) rfl)), List.forall_mem_cons.mpr ⟨(al_t1 (List.mem_of_getElem? (i := 30) (by decide +kernel))), List.forall_mem_cons.mpr ⟨(al_t15 (List.mem_of_getElem? (i := 78) (by decide +kernel))), List.forall_mem_cons.mpr ⟨(al_s (i := 233) (by decide +kernel)), fun _ h => absurd h List.not_mem_nil⟩⟩⟩⟩
set_option maxRecDepth 100000 in
theorem al_wm_X12_closeBracket : ∀ w ∈ ev_blk (ev_unM al_mX12_closeBracket, 0), w ∈ lw_tbl := by
  show ∀ w ∈ [Jvm.Cond.code al_yX12_closeBracket al_mX12_closeBracket.2.1 al_mX12_closeBracket.2.2.1 al_mX12_closeBracket.2.2.2.1, Jvm.Cond.initialized al_yX12_closeBracket.cls, Jvm.Cond.instanceMethod al_yX12_closeBracket, Jvm.Cond.selects al_yX12_closeBracket.cls al_yX12_closeBracket al_yX12_closeBracket], w ∈ lw_tbl
  exact List.forall_mem_cons.mpr ⟨(al_t15 (List.mem_of_getElem? (i := 87) rfl)), List.forall_mem_cons.mpr ⟨(al_t1 (List.mem_of_getElem? (i := 30) (by decide +kernel))), List.forall_mem_cons.mpr ⟨(al_t15 (List.mem_of_getElem? (i := 86) (by decide +kernel))), List.forall_mem_cons.mpr ⟨(al_s (i := 235) (by decide +kernel)), fun _ h => absurd h List.not_mem_nil⟩⟩⟩⟩
set_option maxRecDepth 100000 in
theorem al_wm_X12_chainValue : ∀ w ∈ ev_blk (ev_unM al_mX12_chainValue, 0), w ∈ lw_tbl := by
  show ∀ w ∈ [Jvm.Cond.code al_yX12_chainValue al_mX12_chainValue.2.1 al_mX12_chainValue.2.2.1 al_mX12_chainValue.2.2.2.1, Jvm.Cond.initialized al_yX12_chainValue.cls, Jvm.Cond.instanceMethod al_yX12_chainValue, Jvm.Cond.selects al_yX12_chainValue.cls al_yX12_chainValue al_yX12_chainValue], w ∈ lw_tbl
  exact List.forall_mem_cons.mpr ⟨(al_t15 (List.mem_of_getElem? (i := 91) rfl)), List.forall_mem_cons.mpr ⟨(al_t1 (List.mem_of_getElem? (i := 30) (by decide +kernel))), List.forall_mem_cons.mpr ⟨(al_t15 (List.mem_of_getElem? (i := 90) (by decide +kernel))), List.forall_mem_cons.mpr ⟨(al_s (i := 236) (by decide +kernel)), fun _ h => absurd h List.not_mem_nil⟩⟩⟩⟩
set_option maxRecDepth 100000 in
theorem al_wm_X12_called : ∀ w ∈ ev_blk (ev_unM al_mX12_called, 0), w ∈ lw_tbl := by
  show ∀ w ∈ [Jvm.Cond.code al_yX12_called al_mX12_called.2.1 al_mX12_called.2.2.1 al_mX12_called.2.2.2.1, Jvm.Cond.initialized al_yX12_called.cls, Jvm.Cond.instanceMethod al_yX12_called, Jvm.Cond.selects al_yX12_called.cls al_yX12_called al_yX12_called], w ∈ lw_tbl
  exact List.forall_mem_cons.mpr ⟨(al_t15 (List.mem_of_getElem? (i := 95) rfl)), List.forall_mem_cons.mpr ⟨(al_t1 (List.mem_of_getElem? (i := 30) (by decide +kernel))), List.forall_mem_cons.mpr ⟨(al_t15 (List.mem_of_getElem? (i := 94) (by decide +kernel))), List.forall_mem_cons.mpr ⟨(al_s (i := 237) (by decide +kernel)), fun _ h => absurd h List.not_mem_nil⟩⟩⟩⟩
set_option maxRecDepth 100000 in
theorem al_wmAll : ∀ (k : Nat) (m : ev_Mk), al_mk[k]? = some m → ∀ w ∈ ev_blk m, w ∈ lw_tbl := by
  intro k m h
  match k, h with
  | 0, h => exact (Option.some.inj h) ▸ al_wm_X8_put
  | 1, h => exact (Option.some.inj h) ▸ al_wm_J0_charAt_5068e
  | 2, h => exact (Option.some.inj h) ▸ al_wm_J0_isLatin1_aae02
  | 3, h => exact (Option.some.inj h) ▸ al_wm_J1_charAt_3b067
  | 4, h => exact (Option.some.inj h) ▸ al_wm_J0_checkIndex_df160
  | 5, h => exact (Option.some.inj h) ▸ al_wm_J3_checkIndex_8e157
  | 6, h => exact (Option.some.inj h) ▸ al_wm_J0_length_8abf5
  | 7, h => exact (Option.some.inj h) ▸ al_wm_J0_coder_7d493
  | 8, h => exact (Option.some.inj h) ▸ al_wm_X8_find
  | 9, h => exact (Option.some.inj h) ▸ al_wm_X8_add
  | 10, h => exact (Option.some.inj h) ▸ al_wm_X8_begin
  | 11, h => exact (Option.some.inj h) ▸ al_wm_X8_keepLatent
  | 12, h => exact (Option.some.inj h) ▸ al_wm_X8_keepFixed
  | 13, h => exact (Option.some.inj h) ▸ al_wm_X8_putWords
  | 14, h => exact (Option.some.inj h) ▸ al_wm_X1_latent
  | 15, h => exact (Option.some.inj h) ▸ al_wm_X1_fixed
  | 16, h => exact (Option.some.inj h) ▸ al_wm_X12_init
  | 17, h => exact (Option.some.inj h) ▸ al_wm_X12_internBuilt
  | 18, h => exact (Option.some.inj h) ▸ al_wm_X12_internTypes
  | 19, h => exact (Option.some.inj h) ▸ al_wm_X12_internNames
  | 20, h => exact (Option.some.inj h) ▸ al_wm_X12_hidden
  | 21, h => exact (Option.some.inj h) ▸ al_wm_X12_word
  | 22, h => exact (Option.some.inj h) ▸ al_wm_X12_intern
  | 23, h => exact (Option.some.inj h) ▸ al_wm_X12_hashOf
  | 24, h => exact (Option.some.inj h) ▸ al_wm_X12_compile
  | 25, h => exact (Option.some.inj h) ▸ al_wm_X12_forgetFrom
  | 26, h => exact (Option.some.inj h) ▸ al_wm_X12_readTokens
  | 27, h => exact (Option.some.inj h) ▸ al_wm_X12_skip
  | 28, h => exact (Option.some.inj h) ▸ al_wm_X12_at
  | 29, h => exact (Option.some.inj h) ▸ al_wm_X12_readText
  | 30, h => exact (Option.some.inj h) ▸ al_wm_X12_emit
  | 31, h => exact (Option.some.inj h) ▸ al_wm_X12_later
  | 32, h => exact (Option.some.inj h) ▸ al_wm_X12_goOn
  | 33, h => exact (Option.some.inj h) ▸ al_wm_X12_readBlock
  | 34, h => exact (Option.some.inj h) ▸ al_wm_X12_isWord
  | 35, h => exact (Option.some.inj h) ▸ al_wm_X12_beginsStatement
  | 36, h => exact (Option.some.inj h) ▸ al_wm_X12_isSign
  | 37, h => exact (Option.some.inj h) ▸ al_wm_X12_goOnStatement
  | 38, h => exact (Option.some.inj h) ▸ al_wm_X12_reload
  | 39, h => exact (Option.some.inj h) ▸ al_wm_X12_fill
  | 40, h => exact (Option.some.inj h) ▸ al_wm_X12_set
  | 41, h => exact (Option.some.inj h) ▸ al_wm_X12_placeOf
  | 42, h => exact (Option.some.inj h) ▸ al_wm_X12_keyHash
  | 43, h => exact (Option.some.inj h) ▸ al_wm_X12_object
  | 44, h => exact (Option.some.inj h) ▸ al_wm_X12_how
  | 45, h => exact (Option.some.inj h) ▸ al_wm_X12_openFrame
  | 46, h => exact (Option.some.inj h) ▸ al_wm_X12_forget
  | 47, h => exact (Option.some.inj h) ▸ al_wm_X11_init
  | 48, h => exact (Option.some.inj h) ▸ al_wm_X11_compile
  | 49, h => exact (Option.some.inj h) ▸ al_wm_X11_forget
  | 50, h => exact (Option.some.inj h) ▸ al_wm_X8_init
  | 51, h => exact (Option.some.inj h) ▸ al_wm_X8_keepNames
  | 52, h => exact (Option.some.inj h) ▸ al_wm_X8_dropText
  | 53, h => exact (Option.some.inj h) ▸ al_wm_X8_dropMade
  | 54, h => exact (Option.some.inj h) ▸ al_wm_X8_cutTo
  | 55, h => exact (Option.some.inj h) ▸ al_wm_X6_init
  | 56, h => exact (Option.some.inj h) ▸ al_wm_X6_clear
  | 57, h => exact (Option.some.inj h) ▸ al_wm_X6_addFunction
  | 58, h => exact (Option.some.inj h) ▸ al_wm_X6_emit
  | 59, h => exact (Option.some.inj h) ▸ al_wm_X9_init
  | 60, h => exact (Option.some.inj h) ▸ al_wm_X9_clear
  | 61, h => exact (Option.some.inj h) ▸ al_wm_X9_open
  | 62, h => exact (Option.some.inj h) ▸ al_wm_X9_find
  | 63, h => exact (Option.some.inj h) ▸ al_wm_X9_put
  | 64, h => exact (Option.some.inj h) ▸ al_wm_X9_add
  | 65, h => exact (Option.some.inj h) ▸ al_wm_X3_init
  | 66, h => exact (Option.some.inj h) ▸ al_wm_X3_clear
  | 67, h => exact (Option.some.inj h) ▸ al_wm_X3_make
  | 68, h => exact (Option.some.inj h) ▸ al_wm_X5_init
  | 69, h => exact (Option.some.inj h) ▸ al_wm_X5_open
  | 70, h => exact (Option.some.inj h) ▸ al_wm_X5_enter
  | 71, h => exact (Option.some.inj h) ▸ al_wm_X10_init
  | 72, h => exact (Option.some.inj h) ▸ al_wm_X10_open
  | 73, h => exact (Option.some.inj h) ▸ al_wm_X10_begin
  | 74, h => exact (Option.some.inj h) ▸ al_wm_X10_behindBlanks
  | 75, h => exact (Option.some.inj h) ▸ al_wm_X4_init
  | 76, h => exact (Option.some.inj h) ▸ al_wm_X4_judge
  | 77, h => exact (Option.some.inj h) ▸ al_wm_X4_next
  | 78, h => exact (Option.some.inj h) ▸ al_wm_X4_emit
  | 79, h => exact (Option.some.inj h) ▸ al_wm_X4_startsStatement
  | 80, h => exact (Option.some.inj h) ▸ al_wm_X4_block
  | 81, h => exact (Option.some.inj h) ▸ al_wm_X7_init
  | 82, h => exact (Option.some.inj h) ▸ al_wm_X7_clear
  | 83, h => exact (Option.some.inj h) ▸ al_wm_X7_enter
  | 84, h => exact (Option.some.inj h) ▸ al_wm_X7_height
  | 85, h => exact (Option.some.inj h) ▸ al_wm_X0_init
  | 86, h => exact (Option.some.inj h) ▸ al_wm_X0_clear
  | 87, h => exact (Option.some.inj h) ▸ al_wm_X2_init
  | 88, h => exact (Option.some.inj h) ▸ al_wm_X2_reset
  | 89, h => exact (Option.some.inj h) ▸ al_wm_X1_init
  | 90, h => exact (Option.some.inj h) ▸ al_wm_X1_keepNames
  | 91, h => exact (Option.some.inj h) ▸ al_wm_X1_furnish
  | 92, h => exact (Option.some.inj h) ▸ al_wm_X1_newTable
  | 93, h => exact (Option.some.inj h) ▸ al_wm_J0_indexOf_0f7a4
  | 94, h => exact (Option.some.inj h) ▸ al_wm_J0_indexOf_7cf53
  | 95, h => exact (Option.some.inj h) ▸ al_wm_J0_substring_b52d3
  | 96, h => exact (Option.some.inj h) ▸ al_wm_J0_substring_37a41
  | 97, h => exact (Option.some.inj h) ▸ al_wm_J0_init_031fb
  | 98, h => exact (Option.some.inj h) ▸ al_wm_J0_checkBoundsBeginEnd_23922
  | 99, h => exact (Option.some.inj h) ▸ al_wm_J1_canEncode_9a6ad
  | 100, h => exact (Option.some.inj h) ▸ al_wm_J1_indexOf_4cfef
  | 101, h => exact (Option.some.inj h) ▸ al_wm_J1_indexOfChar_4cfef
  | 102, h => exact (Option.some.inj h) ▸ al_wm_J1_newString_b4f7a
  | 103, h => exact (Option.some.inj h) ▸ al_wm_J3_checkFromToIndex_8c36e
  | 104, h => exact (Option.some.inj h) ▸ al_wm_J7_fill_53178
  | 105, h => exact (Option.some.inj h) ▸ al_wm_J7_fill_031fb
  | 106, h => exact (Option.some.inj h) ▸ al_wm_J7_checkLength_df160
  | 107, h => exact (Option.some.inj h) ▸ al_wm_J7_copyOfRange_39247
  | 108, h => exact (Option.some.inj h) ▸ al_wm_J7_copyOfRangeByte_39247
  | 109, h => exact (Option.some.inj h) ▸ al_wm_X4_refuse
  | 110, h => exact (Option.some.inj h) ▸ al_wm_X4_expect
  | 111, h => exact (Option.some.inj h) ▸ al_wm_X4_take
  | 112, h => exact (Option.some.inj h) ▸ al_wm_X4_push
  | 113, h => exact (Option.some.inj h) ▸ al_wm_X4_cut
  | 114, h => exact (Option.some.inj h) ▸ al_wm_X4_startsExpression
  | 115, h => exact (Option.some.inj h) ▸ al_wm_X4_closedBlock
  | 116, h => exact (Option.some.inj h) ▸ al_wm_X4_statement
  | 117, h => exact (Option.some.inj h) ▸ al_wm_X4_returnStatement
  | 118, h => exact (Option.some.inj h) ▸ al_wm_X4_breakStatement
  | 119, h => exact (Option.some.inj h) ▸ al_wm_X4_whileStatement
  | 120, h => exact (Option.some.inj h) ▸ al_wm_X4_endLoop
  | 121, h => exact (Option.some.inj h) ▸ al_wm_X4_repeatStatement
  | 122, h => exact (Option.some.inj h) ▸ al_wm_X4_ifStatement
  | 123, h => exact (Option.some.inj h) ▸ al_wm_X4_condition
  | 124, h => exact (Option.some.inj h) ▸ al_wm_X4_newName
  | 125, h => exact (Option.some.inj h) ▸ al_wm_X4_moreNames
  | 126, h => exact (Option.some.inj h) ▸ al_wm_X4_forStatement
  | 127, h => exact (Option.some.inj h) ▸ al_wm_X4_countingFor
  | 128, h => exact (Option.some.inj h) ▸ al_wm_X4_rowFor
  | 129, h => exact (Option.some.inj h) ▸ al_wm_X4_adjust
  | 130, h => exact (Option.some.inj h) ▸ al_wm_X4_localStatement
  | 131, h => exact (Option.some.inj h) ▸ al_wm_X4_functionStatement
  | 132, h => exact (Option.some.inj h) ▸ al_wm_X4_cutIfNeeded
  | 133, h => exact (Option.some.inj h) ▸ al_wm_X4_startName
  | 134, h => exact (Option.some.inj h) ▸ al_wm_X4_fieldName
  | 135, h => exact (Option.some.inj h) ▸ al_wm_X4_keyName
  | 136, h => exact (Option.some.inj h) ▸ al_wm_X4_readTail
  | 137, h => exact (Option.some.inj h) ▸ al_wm_X4_chain
  | 138, h => exact (Option.some.inj h) ▸ al_wm_X4_link
  | 139, h => exact (Option.some.inj h) ▸ al_wm_X4_given
  | 140, h => exact (Option.some.inj h) ▸ al_wm_X4_chainStatement
  | 141, h => exact (Option.some.inj h) ▸ al_wm_X4_assignment
  | 142, h => exact (Option.some.inj h) ▸ al_wm_X4_notePlace
  | 143, h => exact (Option.some.inj h) ▸ al_wm_X4_assign
  | 144, h => exact (Option.some.inj h) ▸ al_wm_X4_row
  | 145, h => exact (Option.some.inj h) ▸ al_wm_X4_strength
  | 146, h => exact (Option.some.inj h) ▸ al_wm_X4_unary
  | 147, h => exact (Option.some.inj h) ▸ al_wm_X4_binary
  | 148, h => exact (Option.some.inj h) ▸ al_wm_X4_expression
  | 149, h => exact (Option.some.inj h) ▸ al_wm_X4_operation
  | 150, h => exact (Option.some.inj h) ▸ al_wm_X4_operand
  | 151, h => exact (Option.some.inj h) ▸ al_wm_X4_table
  | 152, h => exact (Option.some.inj h) ▸ al_wm_X4_separator
  | 153, h => exact (Option.some.inj h) ▸ al_wm_X4_keyedField
  | 154, h => exact (Option.some.inj h) ▸ al_wm_X4_itemField
  | 155, h => exact (Option.some.inj h) ▸ al_wm_X4_body
  | 156, h => exact (Option.some.inj h) ▸ al_wm_X4_parameters
  | 157, h => exact (Option.some.inj h) ▸ al_wm_X6_addWhole
  | 158, h => exact (Option.some.inj h) ▸ al_wm_X6_wantOfLast
  | 159, h => exact (Option.some.inj h) ▸ al_wm_X6_land
  | 160, h => exact (Option.some.inj h) ▸ al_wm_X7_leave
  | 161, h => exact (Option.some.inj h) ▸ al_wm_X7_current
  | 162, h => exact (Option.some.inj h) ▸ al_wm_X7_setHeight
  | 163, h => exact (Option.some.inj h) ▸ al_wm_X7_rise
  | 164, h => exact (Option.some.inj h) ▸ al_wm_X7_breaks
  | 165, h => exact (Option.some.inj h) ▸ al_wm_X7_setBreaks
  | 166, h => exact (Option.some.inj h) ▸ al_wm_X7_hide
  | 167, h => exact (Option.some.inj h) ▸ al_wm_X7_reveal
  | 168, h => exact (Option.some.inj h) ▸ al_wm_X7_close
  | 169, h => exact (Option.some.inj h) ▸ al_wm_X7_resolve
  | 170, h => exact (Option.some.inj h) ▸ al_wm_X7_slotOf
  | 171, h => exact (Option.some.inj h) ▸ al_wm_X7_capturedOf
  | 172, h => exact (Option.some.inj h) ▸ al_wm_X8_lengthOf
  | 173, h => exact (Option.some.inj h) ▸ al_wm_X8_byteOf
  | 174, h => exact (Option.some.inj h) ▸ al_wm_X8_has
  | 175, h => exact (Option.some.inj h) ▸ al_wm_X8_compare
  | 176, h => exact (Option.some.inj h) ▸ al_wm_X8_rowLength
  | 177, h => exact (Option.some.inj h) ▸ al_wm_X8_rowByte
  | 178, h => exact (Option.some.inj h) ▸ al_wm_X8_putPiece
  | 179, h => exact (Option.some.inj h) ▸ al_wm_X8_putString
  | 180, h => exact (Option.some.inj h) ▸ al_wm_X8_putWhole
  | 181, h => exact (Option.some.inj h) ▸ al_wm_X8_keepTextual
  | 182, h => exact (Option.some.inj h) ▸ al_wm_X8_wordOfRow
  | 183, h => exact (Option.some.inj h) ▸ al_wm_X8_make
  | 184, h => exact (Option.some.inj h) ▸ al_wm_X10_stop
  | 185, h => exact (Option.some.inj h) ▸ al_wm_X10_assignFollows
  | 186, h => exact (Option.some.inj h) ▸ al_wm_X10_byteAt
  | 187, h => exact (Option.some.inj h) ▸ al_wm_X10_isDigit
  | 188, h => exact (Option.some.inj h) ▸ al_wm_X10_isLetter
  | 189, h => exact (Option.some.inj h) ▸ al_wm_X10_hexDigit
  | 190, h => exact (Option.some.inj h) ▸ al_wm_X10_scanName
  | 191, h => exact (Option.some.inj h) ▸ al_wm_X10_scanNumber
  | 192, h => exact (Option.some.inj h) ▸ al_wm_X10_scanQuoted
  | 193, h => exact (Option.some.inj h) ▸ al_wm_X10_escape
  | 194, h => exact (Option.some.inj h) ▸ al_wm_X10_scanSign
  | 195, h => exact (Option.some.inj h) ▸ al_wm_X10_pairOf
  | 196, h => exact (Option.some.inj h) ▸ al_wm_X12_lineOf
  | 197, h => exact (Option.some.inj h) ▸ al_wm_X12_isLetter
  | 198, h => exact (Option.some.inj h) ▸ al_wm_X12_isDigit
  | 199, h => exact (Option.some.inj h) ▸ al_wm_X12_hex
  | 200, h => exact (Option.some.inj h) ▸ al_wm_X12_wordAt
  | 201, h => exact (Option.some.inj h) ▸ al_wm_X12_wordBehind
  | 202, h => exact (Option.some.inj h) ▸ al_wm_X12_readName
  | 203, h => exact (Option.some.inj h) ▸ al_wm_X12_readWhole
  | 204, h => exact (Option.some.inj h) ▸ al_wm_X12_escape
  | 205, h => exact (Option.some.inj h) ▸ al_wm_X12_readString
  | 206, h => exact (Option.some.inj h) ▸ al_wm_X12_pair
  | 207, h => exact (Option.some.inj h) ▸ al_wm_X12_isAlone
  | 208, h => exact (Option.some.inj h) ▸ al_wm_X12_readSign
  | 209, h => exact (Option.some.inj h) ▸ al_wm_X12_fail
  | 210, h => exact (Option.some.inj h) ▸ al_wm_X12_here
  | 211, h => exact (Option.some.inj h) ▸ al_wm_X12_wrong
  | 212, h => exact (Option.some.inj h) ▸ al_wm_X12_take
  | 213, h => exact (Option.some.inj h) ▸ al_wm_X12_needSign
  | 214, h => exact (Option.some.inj h) ▸ al_wm_X12_needWord
  | 215, h => exact (Option.some.inj h) ▸ al_wm_X12_lineHere
  | 216, h => exact (Option.some.inj h) ▸ al_wm_X12_enter
  | 217, h => exact (Option.some.inj h) ▸ al_wm_X12_beginsE
  | 218, h => exact (Option.some.inj h) ▸ al_wm_X12_proto
  | 219, h => exact (Option.some.inj h) ▸ al_wm_X12_countLocal
  | 220, h => exact (Option.some.inj h) ▸ al_wm_X12_know
  | 221, h => exact (Option.some.inj h) ▸ al_wm_X12_captured
  | 222, h => exact (Option.some.inj h) ▸ al_wm_X12_resolve
  | 223, h => exact (Option.some.inj h) ▸ al_wm_X12_discharge
  | 224, h => exact (Option.some.inj h) ▸ al_wm_X12_block
  | 225, h => exact (Option.some.inj h) ▸ al_wm_X12_endScope
  | 226, h => exact (Option.some.inj h) ▸ al_wm_X12_statement
  | 227, h => exact (Option.some.inj h) ▸ al_wm_X12_openLoop
  | 228, h => exact (Option.some.inj h) ▸ al_wm_X12_closeLoop
  | 229, h => exact (Option.some.inj h) ▸ al_wm_X12_readBreak
  | 230, h => exact (Option.some.inj h) ▸ al_wm_X12_readLocal
  | 231, h => exact (Option.some.inj h) ▸ al_wm_X12_localRow
  | 232, h => exact (Option.some.inj h) ▸ al_wm_X12_readFunction
  | 233, h => exact (Option.some.inj h) ▸ al_wm_X12_readFor
  | 234, h => exact (Option.some.inj h) ▸ al_wm_X12_leftOf
  | 235, h => exact (Option.some.inj h) ▸ al_wm_X12_strength
  | 236, h => exact (Option.some.inj h) ▸ al_wm_X12_readE
  | 237, h => exact (Option.some.inj h) ▸ al_wm_X12_constant
  | 238, h => exact (Option.some.inj h) ▸ al_wm_X12_operand
  | 239, h => exact (Option.some.inj h) ▸ al_wm_X12_readOps
  | 240, h => exact (Option.some.inj h) ▸ al_wm_X12_eventOf
  | 241, h => exact (Option.some.inj h) ▸ al_wm_X12_binary
  | 242, h => exact (Option.some.inj h) ▸ al_wm_X12_unary
  | 243, h => exact (Option.some.inj h) ▸ al_wm_X12_chain
  | 244, h => exact (Option.some.inj h) ▸ al_wm_X12_beginsGiven
  | 245, h => exact (Option.some.inj h) ▸ al_wm_X12_suffix
  | 246, h => exact (Option.some.inj h) ▸ al_wm_X12_given
  | 247, h => exact (Option.some.inj h) ▸ al_wm_X12_row
  | 248, h => exact (Option.some.inj h) ▸ al_wm_X12_table
  | 249, h => exact (Option.some.inj h) ▸ al_wm_X12_fields
  | 250, h => exact (Option.some.inj h) ▸ al_wm_X12_isParting
  | 251, h => exact (Option.some.inj h) ▸ al_wm_X12_keyed
  | 252, h => exact (Option.some.inj h) ▸ al_wm_X12_positional
  | 253, h => exact (Option.some.inj h) ▸ al_wm_X12_body
  | 254, h => exact (Option.some.inj h) ▸ al_wm_X12_parameters
  | 255, h => exact (Option.some.inj h) ▸ al_wm_X12_bodyEnd
  | 256, h => exact (Option.some.inj h) ▸ al_wm_X12_afterChain
  | 257, h => exact (Option.some.inj h) ▸ al_wm_X12_assign
  | 258, h => exact (Option.some.inj h) ▸ al_wm_X12_then
  | 259, h => exact (Option.some.inj h) ▸ al_wm_X12_afterIf
  | 260, h => exact (Option.some.inj h) ▸ al_wm_X12_endIf
  | 261, h => exact (Option.some.inj h) ▸ al_wm_X12_whileDo
  | 262, h => exact (Option.some.inj h) ▸ al_wm_X12_whileEnd
  | 263, h => exact (Option.some.inj h) ▸ al_wm_X12_until
  | 264, h => exact (Option.some.inj h) ▸ al_wm_X12_untilEnd
  | 265, h => exact (Option.some.inj h) ▸ al_wm_X12_forTwo
  | 266, h => exact (Option.some.inj h) ▸ al_wm_X12_forThree
  | 267, h => exact (Option.some.inj h) ▸ al_wm_X12_forDo
  | 268, h => exact (Option.some.inj h) ▸ al_wm_X12_forEnd
  | 269, h => exact (Option.some.inj h) ▸ al_wm_X12_inDo
  | 270, h => exact (Option.some.inj h) ▸ al_wm_X12_inEnd
  | 271, h => exact (Option.some.inj h) ▸ al_wm_X12_returned
  | 272, h => exact (Option.some.inj h) ▸ al_wm_X12_functionDone
  | 273, h => exact (Option.some.inj h) ▸ al_wm_X12_closeParen
  | 274, h => exact (Option.some.inj h) ▸ al_wm_X12_closeBracket
  | 275, h => exact (Option.some.inj h) ▸ al_wm_X12_chainValue
  | 276, h => exact (Option.some.inj h) ▸ al_wm_X12_called
  | n + 277, h =>
    have := (List.getElem?_eq_some_iff.mp h).1
    have e : al_mk.length = 277 := rfl
    omega
theorem al_in_of {l t : List Jvm.Cond} {ps : List Nat} (h : l.map some = ps.map (fun i => t[i]?)) : ∀ w ∈ l, w ∈ t := by
  intro w hw
  have h1 : some w ∈ l.map some := List.mem_map.mpr ⟨w, hw, rfl⟩
  rw [h] at h1
  obtain ⟨i, -, hi⟩ := List.mem_map.mp h1
  exact List.mem_of_getElem? hi
theorem al_in_split {l t : List Jvm.Cond} (n : Nat) (h1 : ∀ w ∈ l.take n, w ∈ t) (h2 : ∀ w ∈ l.drop n, w ∈ t) : ∀ w ∈ l, w ∈ t := by
  intro w hw
  rw [← List.take_append_drop n l] at hw
  rcases List.mem_append.mp hw with h | h
  · exact h1 w h
  · exact h2 w h
abbrev al_rest : List Jvm.Cond := al_cl.flatMap (fun c => u_ws c.1 c.2.1 c.2.2) ++ al_more
set_option maxRecDepth 100000 in
theorem al_w0 : ((al_rest.drop 0).take 100).map some = [3229, 3231, 3233, 3235, 3237, 3239, 3241, 3243, 3245, 3247, 3249, 3251, 3253, 3255, 3257, 3259, 3261, 3263, 3265, 3267, 3269, 3271, 3273, 3275, 3277, 3279, 3281, 3283, 3285, 3287, 3289, 3291, 3293, 3295, 3297, 3299, 3301, 3303, 3305, 3307, 3309, 3311, 3313, 3315, 3317, 3319, 3321, 3323, 3325, 3327, 3329, 3331, 3333, 3335, 3337, 3339, 3341, 3343, 3345, 3347, 3349, 3351, 3353, 3355, 3357, 3359, 3361, 3363, 3365, 3367, 3369, 3371, 3373, 3375, 3377, 3379, 3381, 3383, 3385, 3387, 3389, 3391, 3393, 3395, 3397, 3399, 3401, 3403, 3405, 3407, 3409, 3411, 3413, 3415, 3417, 3419, 3421, 3423, 3425, 3427].map (fun i => lw_tbl[i]?) := by decide +kernel
set_option maxRecDepth 100000 in
theorem al_w1 : ((al_rest.drop 100).take 100).map some = [3429, 3431, 3433, 3435, 3437, 3439, 3441, 3443, 3445, 3447, 3449, 3451, 3453, 3455, 3457, 3459, 3461, 3463, 3465, 3467, 3469, 3471, 3473, 3475, 3477, 3479, 3481, 3483, 3485, 3487, 3489, 3491, 3493, 3495, 3497, 3499, 3501, 3503, 3505, 3507, 3509, 3511, 3513, 3515, 3517, 3519, 3521, 3523, 3525, 3527, 3529, 3531, 3533, 3535, 3537, 3539, 3541, 3543, 3545, 3547, 1348, 1350, 1348, 1350, 1352, 1354, 1589, 1591, 1593, 1595, 1597, 1599, 1601, 1603, 1605, 1607, 1609, 1611, 535, 537, 539, 541, 543, 545, 547, 549, 551, 553, 555, 557, 559, 561, 563, 565, 614, 616, 618, 620, 622, 624].map (fun i => lw_tbl[i]?) := by decide +kernel
set_option maxRecDepth 100000 in
theorem al_w2 : ((al_rest.drop 200).take 100).map some = [626, 628, 630, 632, 634, 636, 638, 640, 642, 691, 693, 695, 697, 699, 701, 703, 705, 707, 709, 711, 713, 715, 717, 719, 721, 723, 849, 851, 853, 855, 857, 859, 861, 863, 865, 867, 869, 871, 786, 788, 790, 792, 794, 796, 798, 800, 802, 804, 806, 808, 810, 812, 814, 816, 896, 898, 900, 902, 904, 906, 908, 910, 912, 990, 992, 994, 996, 998, 1000, 1002, 1004, 1006, 1008, 1010, 1012, 1014, 940, 942, 944, 946, 948, 950, 952, 954, 956, 958, 960, 962, 1041, 1043, 1045, 1047, 1049, 1051, 1053, 1055, 1057, 1059, 1061, 1063].map (fun i => lw_tbl[i]?) := by decide +kernel
set_option maxRecDepth 100000 in
theorem al_w3 : ((al_rest.drop 300).take 100).map some = [1065, 1067, 1069, 1538, 1540, 1542, 1544, 1546, 1548, 1550, 1552, 1554, 1556, 1558, 1560, 1562, 1564, 1566, 1568, 1570, 1572, 1574, 1484, 1486, 1488, 1490, 1492, 1494, 1496, 1498, 1500, 1502, 1504, 1506, 1508, 1510, 1512, 1514, 534, 533, 462, 1346, 466, 456, 1347, 469, 472, 474, 452, 524, 522, 520, 518, 519, 521, 526, 527, 508, 510, 509, 400, 523, 500, 504, 525, 528, 529, 448, 458, 511, 1466, 1398, 1399, 1400, 1455, 2962, 434, 435, 569, 3070, 2963, 568, 3076, 3078, 3079, 3080, 3081, 3082, 3088, 3090, 3091, 645, 3092, 3095, 3096, 3097, 3098, 646, 3099, 3100].map (fun i => lw_tbl[i]?) := by decide +kernel
set_option maxRecDepth 100000 in
theorem al_w4 : ((al_rest.drop 400).take 100).map some = [3101, 3102, 3104, 3105, 3106, 3107, 3108, 3111, 3112, 3113, 3114, 3117, 3118, 3120, 3121, 3123, 3124, 3126, 3127, 3128, 3139, 3140, 3141, 3142, 3143, 3144, 2964, 3145, 3148, 3149, 3150, 3151, 3152, 3153, 3154, 3155, 3156, 2965, 3161, 3162, 3163, 3164, 3166, 3167, 3168, 3169, 3170, 3171, 3172, 3173, 3174, 3175, 3176, 3177, 3178, 2966, 3181, 3182, 2967, 3183, 3184, 3185, 3186, 3187, 3188, 3189, 3190, 3191, 3192, 3193, 3194, 3195, 3196, 2968, 3197, 3204, 3205, 3207, 3208, 3215, 3216, 3218, 3220, 3223, 3224, 3225, 3227, 3228, 2969, 3083, 3134, 3077, 3135, 2973, 2974, 2990, 2991, 2992, 2993, 2994].map (fun i => lw_tbl[i]?) := by decide +kernel
set_option maxRecDepth 100000 in
theorem al_w5 : ((al_rest.drop 500).take 100).map some = [2995, 2996, 2997, 2998, 2999, 3000, 3001, 3002, 3003, 3004, 3005, 3006, 3007, 3008, 3009, 3010, 3011, 3012, 3032, 3016, 3017, 3018, 3019, 3020, 3021, 3022, 3023, 3024, 3025, 3026, 3027, 3028, 3029, 3030, 3031, 3036, 3037, 3038, 3039, 3040, 3041, 3042, 3043, 3044, 3045, 3046, 3047, 3048, 3049, 3050, 3051, 3052, 3053, 3054, 3055, 3056, 3057, 3058, 3059, 3060, 3061, 3062, 3063, 3064, 3065, 3066, 3067, 3068, 3089, 2978, 2982, 2986, 3069, 3072, 3566, 3073, 3570, 3647, 3074, 3679, 3075, 3084, 3085, 3959, 3103, 3093, 3574, 3578, 3136, 3582, 3585, 3589, 3618, 3628, 3636, 3137, 3138, 3071, 3094, 3115].map (fun i => lw_tbl[i]?) := by decide +kernel
set_option maxRecDepth 100000 in
theorem al_w6 : ((al_rest.drop 600).take 100).map some = [3116, 3119, 3122, 3125, 3129, 3110, 3109, 3651, 3655, 3659, 3663, 3771, 3775, 3791, 3802, 3806, 3813, 3817, 3829, 3837, 3841, 3833, 3845, 3849, 3853, 3858, 3866, 3870, 3879, 3883, 3667, 3671, 3683, 3691, 3699, 3703, 3707, 3695, 3887, 3891, 3895, 3899, 3903, 3907, 3911, 3919, 3923, 3735, 3927, 3931, 3935, 3939, 3943, 3947, 3951, 3763, 3955, 3727, 3963, 3968, 3986, 3180, 3206, 3990, 3994, 3198, 3972, 3976, 3158, 3212, 3157, 3980, 3983, 3984, 3985, 3146, 3199, 3200, 3201, 3086, 3087, 3165, 3967, 3147, 3179, 3221, 3222, 3219, 3214, 3217, 433, 434, 435, 1577, 436, 437, 395, 438, 1578, 570].map (fun i => lw_tbl[i]?) := by decide +kernel
set_option maxRecDepth 100000 in
theorem al_w7 : ((al_rest.drop 700).take 100).map some = [571, 401, 572, 1579, 647, 648, 402, 649, 1580, 726, 727, 403, 728, 1581, 1587, 1588, 874, 875, 405, 876, 877, 406, 878, 915, 1582, 1017, 1018, 408, 1019, 1583, 1072, 1073, 409, 1074, 1584, 1618, 1585, 1626, 981, 983, 1586, 2008, 612, 441, 434, 435, 442, 444, 496, 1634, 531, 532, 1638, 1229, 421, 1230, 575, 434, 435, 576, 578, 580, 582, 586, 589, 592, 595, 598, 602, 604, 608, 584, 588, 611, 652, 434, 435, 653, 654, 655, 659, 663, 667, 672, 676, 681, 682, 683, 684, 685, 2025, 687, 688, 689, 2028, 686, 2056, 2060, 731, 434].map (fun i => lw_tbl[i]?) := by decide +kernel
set_option maxRecDepth 100000 in
theorem al_w8 : ((al_rest.drop 800).take 100).map some = [435, 819, 822, 825, 833, 836, 839, 732, 843, 732, 734, 404, 735, 827, 830, 835, 842, 847, 2017, 738, 434, 435, 739, 744, 753, 756, 759, 761, 763, 765, 767, 777, 772, 749, 769, 782, 784, 881, 434, 435, 882, 883, 884, 885, 890, 892, 886, 1679, 889, 1687, 1690, 1683, 918, 434, 435, 987, 975, 976, 977, 919, 920, 407, 921, 978, 965, 970, 974, 989, 1630, 1639, 1643, 1647, 979, 988, 590, 1651, 605, 1655, 1659, 1663, 1737, 1745, 887, 1667, 1765, 893, 1675, 1693, 1707, 1716, 1728, 1741, 1749, 1753, 2004, 924, 434, 435, 926, 927].map (fun i => lw_tbl[i]?) := by decide +kernel
set_option maxRecDepth 100000 in
theorem al_w9 : ((al_rest.drop 900).take 100).map some = [930, 931, 932, 933, 935, 925, 934, 928, 1022, 434, 435, 1026, 1027, 1028, 1030, 1032, 1033, 1036, 1023, 1024, 1025, 2036, 1034, 1037, 1039, 1077, 434, 435, 1517, 1518, 1519, 1520, 1521, 1078, 1079, 410, 1080, 1522, 2012, 2013, 2021, 2032, 2039, 1525, 1526, 1529, 1530, 844, 1524, 591, 2072, 1083, 434, 435, 1470, 1471, 1472, 1474, 1467, 1468, 1469, 1085, 1451, 1473, 1089, 1090, 1091, 1394, 1401, 1446, 1476, 2043, 2052, 2047, 2051, 1405, 1095, 1409, 1450, 1096, 1102, 1320, 434, 435, 1099, 1412, 1415, 1211, 421, 1212, 1416, 1229, 421, 1230, 1417, 1106, 1107, 396, 1108, 1382].map (fun i => lw_tbl[i]?) := by decide +kernel
set_option maxRecDepth 100000 in
theorem al_w10 : ((al_rest.drop 1000).take 100).map some = [1111, 1114, 1228, 1229, 421, 1230, 1231, 510, 509, 400, 888, 980, 891, 982, 1671, 1809, 1777, 1801, 929, 1769, 1773, 1757, 1761, 1781, 1785, 1940, 1944, 1952, 1972, 1984, 1988, 1992, 1797, 1917, 1789, 1932, 585, 1793, 1936, 1849, 1948, 895, 1829, 1837, 1956, 1960, 1964, 1817, 1805, 1841, 1968, 1825, 1885, 1905, 984, 985, 986, 1976, 1980, 1889, 937, 939, 1909, 1865, 1901, 1913, 1853, 1881, 1877, 1996, 2000, 1813, 1921, 1925, 1929, 1821, 1857, 1861, 1869, 1873, 613, 1833, 594, 1845, 597, 1893, 1897, 936, 938, 600, 609, 2341, 2494, 1211, 421, 1212, 2490, 2206, 1697, 1698].map (fun i => lw_tbl[i]?) := by decide +kernel
set_option maxRecDepth 100000 in
theorem al_w11 : ((al_rest.drop 1100).take 70).map some = [1699, 1703, 894, 1711, 1714, 1715, 1720, 1724, 1732, 1736, 3596, 3597, 3598, 3599, 3600, 3601, 3602, 3603, 3604, 3605, 3606, 3609, 3610, 3611, 3612, 3613, 3614, 3615, 3616, 3617, 3592, 3622, 3625, 3626, 3627, 3632, 3640, 3643, 3644, 3675, 3687, 3719, 3132, 3747, 3130, 3131, 3711, 3715, 3723, 3739, 3755, 3767, 3731, 3759, 3743, 3751, 3799, 3779, 3133, 3783, 3787, 3795, 3810, 3821, 3825, 3857, 3862, 3874, 3875, 3915].map (fun i => lw_tbl[i]?) := by decide +kernel
theorem al_w_end : ∀ w ∈ al_rest.drop 1170, w ∈ lw_tbl := (fun w hw => by rw [List.drop_eq_nil_of_le (by decide +kernel)] at hw; exact absurd hw List.not_mem_nil)
theorem al_wi11 : ∀ w ∈ al_rest.drop 1100, w ∈ lw_tbl := al_in_split 70 (al_in_of al_w11) (by rw [List.drop_drop]; exact al_w_end)
theorem al_wi10 : ∀ w ∈ al_rest.drop 1000, w ∈ lw_tbl := al_in_split 100 (al_in_of al_w10) (by rw [List.drop_drop]; exact al_wi11)
theorem al_wi9 : ∀ w ∈ al_rest.drop 900, w ∈ lw_tbl := al_in_split 100 (al_in_of al_w9) (by rw [List.drop_drop]; exact al_wi10)
theorem al_wi8 : ∀ w ∈ al_rest.drop 800, w ∈ lw_tbl := al_in_split 100 (al_in_of al_w8) (by rw [List.drop_drop]; exact al_wi9)
theorem al_wi7 : ∀ w ∈ al_rest.drop 700, w ∈ lw_tbl := al_in_split 100 (al_in_of al_w7) (by rw [List.drop_drop]; exact al_wi8)
theorem al_wi6 : ∀ w ∈ al_rest.drop 600, w ∈ lw_tbl := al_in_split 100 (al_in_of al_w6) (by rw [List.drop_drop]; exact al_wi7)
theorem al_wi5 : ∀ w ∈ al_rest.drop 500, w ∈ lw_tbl := al_in_split 100 (al_in_of al_w5) (by rw [List.drop_drop]; exact al_wi6)
theorem al_wi4 : ∀ w ∈ al_rest.drop 400, w ∈ lw_tbl := al_in_split 100 (al_in_of al_w4) (by rw [List.drop_drop]; exact al_wi5)
theorem al_wi3 : ∀ w ∈ al_rest.drop 300, w ∈ lw_tbl := al_in_split 100 (al_in_of al_w3) (by rw [List.drop_drop]; exact al_wi4)
theorem al_wi2 : ∀ w ∈ al_rest.drop 200, w ∈ lw_tbl := al_in_split 100 (al_in_of al_w2) (by rw [List.drop_drop]; exact al_wi3)
theorem al_wi1 : ∀ w ∈ al_rest.drop 100, w ∈ lw_tbl := al_in_split 100 (al_in_of al_w1) (by rw [List.drop_drop]; exact al_wi2)
theorem al_wi0 : ∀ w ∈ al_rest.drop 0, w ∈ lw_tbl := al_in_split 100 (al_in_of al_w0) (by rw [List.drop_drop]; exact al_wi1)
set_option maxRecDepth 100000 in
theorem al_words : ∀ w ∈ al_WN, w ∈ lw_tbl := by
  intro w hw
  rcases List.mem_append.mp hw with h | h
  · obtain ⟨m, hm, hw2⟩ := List.mem_flatMap.mp h
    obtain ⟨k, hk⟩ := List.getElem?_of_mem hm
    exact al_wmAll k m hk w hw2
  · exact al_wi0 w h
