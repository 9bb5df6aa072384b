/-! ===== 30: the law's wrappers where the class throws (by wip/p1/walk.py) ===== -/
theorem lw_GoodInH {y y2 : MethodName} {b b2 : ByteArray} {n n2 : Nat} {r r2 : Option FieldType} {hh : List (Nat × Nat × Nat × Nat)} (h : Jvm.Cond.code y b n r ∈ lw_wH y2 b2 n2 r2 hh) (g : goodWord (Jvm.Cond.code y b n r) = true) : GoodIn (lw_wH y2 b2 n2 r2 hh) (lw_w y b n r) := fun w hw => by
  rcases List.mem_cons.mp hw with rfl | hw
  · exact ⟨h, good_of_word g⟩
  · exact ⟨List.mem_cons_of_mem _ hw, good_of_word (lw_Gg hw)⟩
def ly_L_feed : MethodName := ⟨"TableTongueLaw", "feed", "(LTableTongue;IJ[J)I"⟩
def ly_L_fault : MethodName := ⟨"TableTongueLaw", "fault", "(LTableTongue;I[J)I"⟩
def ly_L_function : MethodName := ⟨"TableTongueLaw", "function", "(LTableTongue;II[J)I"⟩
def ly_L_load : MethodName := ⟨"TableTongueLaw", "load", "(LTableTongue;)I"⟩
def ly_L_run : MethodName := ⟨"TableTongueLaw", "run", "(LTableTongue;I[J)I"⟩
def ly_L_result : MethodName := ⟨"TableTongueLaw", "result", "(LTableTongue;II[J)I"⟩
def ly_L_resultByte : MethodName := ⟨"TableTongueLaw", "resultByte", "(LTableTongue;II[J)I"⟩
def ly_L_output : MethodName := ⟨"TableTongueLaw", "output", "(LTableTongue;I[J)I"⟩
def ly_L_count : MethodName := ⟨"TableTongueLaw", "count", "(LTableTongue;I[J)I"⟩
def ly_L_object : MethodName := ⟨"TableTongueLaw", "object", "(LTableTongue;II[J)I"⟩
def ly_L_place : MethodName := ⟨"TableTongueLaw", "place", "(LTableTongue;III[J)I"⟩
theorem ld_L_feed_0 : decode method_3_code 0 = .ok (.aload 4, 2) := by decide +kernel
theorem ld_L_feed_2 : decode method_3_code 2 = .ok (.iconst 0, 1) := by decide +kernel
theorem ld_L_feed_3 : decode method_3_code 3 = .ok (.aload_n 0, 1) := by decide +kernel
theorem ld_L_feed_4 : decode method_3_code 4 = .ok (.iload_n 1, 1) := by decide +kernel
theorem ld_L_feed_5 : decode method_3_code 5 = .ok (.lload_n 2, 1) := by decide +kernel
theorem ld_L_feed_6 : decode method_3_code 6 = .ok (.invokevirtual 7, 3) := by decide +kernel
theorem ld_L_feed_14 : decode method_3_code 14 = .ok (.astore 5, 2) := by decide +kernel
theorem ld_L_feed_16 : decode method_3_code 16 = .ok (.iconst 1, 1) := by decide +kernel
theorem ld_L_feed_17 : decode method_3_code 17 = .ok (.ireturn, 1) := by decide +kernel
theorem ld_L_fault_0 : decode method_4_code 0 = .ok (.aload_n 2, 1) := by decide +kernel
theorem ld_L_fault_1 : decode method_4_code 1 = .ok (.iconst 0, 1) := by decide +kernel
theorem ld_L_fault_2 : decode method_4_code 2 = .ok (.aload_n 0, 1) := by decide +kernel
theorem ld_L_fault_3 : decode method_4_code 3 = .ok (.iload_n 1, 1) := by decide +kernel
theorem ld_L_fault_4 : decode method_4_code 4 = .ok (.invokevirtual 15, 3) := by decide +kernel
theorem ld_L_fault_12 : decode method_4_code 12 = .ok (.astore_n 3, 1) := by decide +kernel
theorem ld_L_fault_13 : decode method_4_code 13 = .ok (.iconst 1, 1) := by decide +kernel
theorem ld_L_fault_14 : decode method_4_code 14 = .ok (.ireturn, 1) := by decide +kernel
theorem ld_L_function_0 : decode method_5_code 0 = .ok (.aload_n 3, 1) := by decide +kernel
theorem ld_L_function_1 : decode method_5_code 1 = .ok (.iconst 0, 1) := by decide +kernel
theorem ld_L_function_2 : decode method_5_code 2 = .ok (.aload_n 0, 1) := by decide +kernel
theorem ld_L_function_3 : decode method_5_code 3 = .ok (.iload_n 1, 1) := by decide +kernel
theorem ld_L_function_4 : decode method_5_code 4 = .ok (.iload_n 2, 1) := by decide +kernel
theorem ld_L_function_5 : decode method_5_code 5 = .ok (.invokevirtual 21, 3) := by decide +kernel
theorem ld_L_function_13 : decode method_5_code 13 = .ok (.astore 4, 2) := by decide +kernel
theorem ld_L_function_15 : decode method_5_code 15 = .ok (.iconst 1, 1) := by decide +kernel
theorem ld_L_function_16 : decode method_5_code 16 = .ok (.ireturn, 1) := by decide +kernel
theorem ld_L_load_0 : decode method_6_code 0 = .ok (.aload_n 0, 1) := by decide +kernel
theorem ld_L_load_1 : decode method_6_code 1 = .ok (.invokevirtual 25, 3) := by decide +kernel
theorem ld_L_load_7 : decode method_6_code 7 = .ok (.astore_n 1, 1) := by decide +kernel
theorem ld_L_load_8 : decode method_6_code 8 = .ok (.iconst 1, 1) := by decide +kernel
theorem ld_L_load_9 : decode method_6_code 9 = .ok (.ireturn, 1) := by decide +kernel
theorem ld_L_run_0 : decode method_7_code 0 = .ok (.aload_n 2, 1) := by decide +kernel
theorem ld_L_run_1 : decode method_7_code 1 = .ok (.iconst 0, 1) := by decide +kernel
theorem ld_L_run_2 : decode method_7_code 2 = .ok (.aload_n 0, 1) := by decide +kernel
theorem ld_L_run_3 : decode method_7_code 3 = .ok (.iload_n 1, 1) := by decide +kernel
theorem ld_L_run_4 : decode method_7_code 4 = .ok (.invokevirtual 30, 3) := by decide +kernel
theorem ld_L_run_12 : decode method_7_code 12 = .ok (.astore_n 3, 1) := by decide +kernel
theorem ld_L_run_13 : decode method_7_code 13 = .ok (.iconst 1, 1) := by decide +kernel
theorem ld_L_run_14 : decode method_7_code 14 = .ok (.ireturn, 1) := by decide +kernel
theorem ld_L_result_0 : decode method_8_code 0 = .ok (.aload_n 3, 1) := by decide +kernel
theorem ld_L_result_1 : decode method_8_code 1 = .ok (.iconst 0, 1) := by decide +kernel
theorem ld_L_result_2 : decode method_8_code 2 = .ok (.aload_n 0, 1) := by decide +kernel
theorem ld_L_result_3 : decode method_8_code 3 = .ok (.iload_n 1, 1) := by decide +kernel
theorem ld_L_result_4 : decode method_8_code 4 = .ok (.iload_n 2, 1) := by decide +kernel
theorem ld_L_result_5 : decode method_8_code 5 = .ok (.invokevirtual 33, 3) := by decide +kernel
theorem ld_L_result_12 : decode method_8_code 12 = .ok (.astore 4, 2) := by decide +kernel
theorem ld_L_result_14 : decode method_8_code 14 = .ok (.iconst 1, 1) := by decide +kernel
theorem ld_L_result_15 : decode method_8_code 15 = .ok (.ireturn, 1) := by decide +kernel
theorem ld_L_resultByte_0 : decode method_9_code 0 = .ok (.aload_n 3, 1) := by decide +kernel
theorem ld_L_resultByte_1 : decode method_9_code 1 = .ok (.iconst 0, 1) := by decide +kernel
theorem ld_L_resultByte_2 : decode method_9_code 2 = .ok (.aload_n 0, 1) := by decide +kernel
theorem ld_L_resultByte_3 : decode method_9_code 3 = .ok (.iload_n 1, 1) := by decide +kernel
theorem ld_L_resultByte_4 : decode method_9_code 4 = .ok (.iload_n 2, 1) := by decide +kernel
theorem ld_L_resultByte_5 : decode method_9_code 5 = .ok (.invokevirtual 37, 3) := by decide +kernel
theorem ld_L_resultByte_13 : decode method_9_code 13 = .ok (.astore 4, 2) := by decide +kernel
theorem ld_L_resultByte_15 : decode method_9_code 15 = .ok (.iconst 1, 1) := by decide +kernel
theorem ld_L_resultByte_16 : decode method_9_code 16 = .ok (.ireturn, 1) := by decide +kernel
theorem ld_L_output_0 : decode method_10_code 0 = .ok (.aload_n 2, 1) := by decide +kernel
theorem ld_L_output_1 : decode method_10_code 1 = .ok (.iconst 0, 1) := by decide +kernel
theorem ld_L_output_2 : decode method_10_code 2 = .ok (.aload_n 0, 1) := by decide +kernel
theorem ld_L_output_3 : decode method_10_code 3 = .ok (.iload_n 1, 1) := by decide +kernel
theorem ld_L_output_4 : decode method_10_code 4 = .ok (.invokevirtual 40, 3) := by decide +kernel
theorem ld_L_output_12 : decode method_10_code 12 = .ok (.astore_n 3, 1) := by decide +kernel
theorem ld_L_output_13 : decode method_10_code 13 = .ok (.iconst 1, 1) := by decide +kernel
theorem ld_L_output_14 : decode method_10_code 14 = .ok (.ireturn, 1) := by decide +kernel
theorem ld_L_count_0 : decode method_11_code 0 = .ok (.aload_n 2, 1) := by decide +kernel
theorem ld_L_count_1 : decode method_11_code 1 = .ok (.iconst 0, 1) := by decide +kernel
theorem ld_L_count_2 : decode method_11_code 2 = .ok (.aload_n 0, 1) := by decide +kernel
theorem ld_L_count_3 : decode method_11_code 3 = .ok (.iload_n 1, 1) := by decide +kernel
theorem ld_L_count_4 : decode method_11_code 4 = .ok (.invokevirtual 43, 3) := by decide +kernel
theorem ld_L_count_12 : decode method_11_code 12 = .ok (.astore_n 3, 1) := by decide +kernel
theorem ld_L_count_13 : decode method_11_code 13 = .ok (.iconst 1, 1) := by decide +kernel
theorem ld_L_count_14 : decode method_11_code 14 = .ok (.ireturn, 1) := by decide +kernel
theorem ld_L_object_0 : decode method_12_code 0 = .ok (.aload_n 3, 1) := by decide +kernel
theorem ld_L_object_1 : decode method_12_code 1 = .ok (.iconst 0, 1) := by decide +kernel
theorem ld_L_object_2 : decode method_12_code 2 = .ok (.aload_n 0, 1) := by decide +kernel
theorem ld_L_object_3 : decode method_12_code 3 = .ok (.iload_n 1, 1) := by decide +kernel
theorem ld_L_object_4 : decode method_12_code 4 = .ok (.iload_n 2, 1) := by decide +kernel
theorem ld_L_object_5 : decode method_12_code 5 = .ok (.invokevirtual 46, 3) := by decide +kernel
theorem ld_L_object_13 : decode method_12_code 13 = .ok (.astore 4, 2) := by decide +kernel
theorem ld_L_object_15 : decode method_12_code 15 = .ok (.iconst 1, 1) := by decide +kernel
theorem ld_L_object_16 : decode method_12_code 16 = .ok (.ireturn, 1) := by decide +kernel
theorem ld_L_place_0 : decode method_13_code 0 = .ok (.aload 4, 2) := by decide +kernel
theorem ld_L_place_2 : decode method_13_code 2 = .ok (.iconst 0, 1) := by decide +kernel
theorem ld_L_place_3 : decode method_13_code 3 = .ok (.aload_n 0, 1) := by decide +kernel
theorem ld_L_place_4 : decode method_13_code 4 = .ok (.iload_n 1, 1) := by decide +kernel
theorem ld_L_place_5 : decode method_13_code 5 = .ok (.iload_n 2, 1) := by decide +kernel
theorem ld_L_place_6 : decode method_13_code 6 = .ok (.iload_n 3, 1) := by decide +kernel
theorem ld_L_place_7 : decode method_13_code 7 = .ok (.invokevirtual 49, 3) := by decide +kernel
theorem ld_L_place_14 : decode method_13_code 14 = .ok (.astore 5, 2) := by decide +kernel
theorem ld_L_place_16 : decode method_13_code 16 = .ok (.iconst 1, 1) := by decide +kernel
theorem ld_L_place_17 : decode method_13_code 17 = .ok (.ireturn, 1) := by decide +kernel
set_option maxHeartbeats 4000000 in
set_option maxRecDepth 100000 in
theorem w_L_feed_bad (l : Launch) (hst : l.stackTraces = false) (D : va_G) (q0 sz : Nat) (fs : List Value) (hf8 : fs[8]? = some (.int 0)) (hf9 : fs[9]? = some (.int 0)) (hf10 : fs[10]? = some (.int (-1))) (hf11 : fs[11]? = some (.int (-1))) (a1 : Int32) (a2 : Int64) (o : Nat) (hbad : a1 < 1 ∨ 8 < a1) : Met l ly_L_feed (lw_wH ly_L_feed method_3_code 6 (some .int) [(0, 11, 14, 13)]) ({ frames := 10, cells := 1, slots := 6, locals := 220 }) (lw_PX D q0 fs sz [.ref q0, .int a1, .long a2, .ref o]) (va_Qi (S := Unit) (fun r _ => r = 1) (fun _ _ => True) (fun q => sz ≤ q)) 1 6 (fun q => sz ≤ q) := by
  refine va_MetW (cc := method_3_code) (maxL := 6) (ret := (some .int)) (hh := [(0, 11, 14, 13)]) (by decide) rfl ?_
  intro p e s m args below meth c s₁ B hml hv
  obtain ⟨rfl, hsz, hP, hK, hE⟩ := hv
  subst hsz
  have hx := B.exec
  have hb := B.bytes
  have hr := B.returns
  have hts := atoms_spec (ws := lw_wH ly_L_feed method_3_code 6 (some .int) [(0, 11, 14, 13)]) B.pre
  have hown : s.vm.findClass "TableTongueLaw" = some m.cls := findClass_of_methodNamed B.named
  have htab := vx_table (x := ly_L_feed) B (hts _ List.mem_cons_self)
  have hS : va_S (fun q => s.heap.size ≤ q) s.heap s.heap [] := va_S.rf
  have hl := lv_entry ([.ref q0, .int a1, .long a2, .ref o]) (n := 6) (Nat.le_of_ble_eq_true rfl)
  rw [lg_entry_eq]
  generalize (lg_sl ([.ref q0, .int a1, .long a2, .ref o]) ++ List.replicate (6 - (lg_sl ([.ref q0, .int a1, .long a2, .ref o])).length) Slot.unset).toArray = ls at hl ⊢
  have hl : lv_has ls 6 [(0, .ref q0), (1, .int a1), (2, .long a2), (4, .ref o)] := hl
  refine lv_aload hx hb ld_L_feed_0 (lv_at hl 3 rfl) ?_
  refine lv_iconst (v := 0) hx hb ld_L_feed_2 (by decide) ?_
  refine lv_aload_n hx hb ld_L_feed_3 rfl (lv_at hl 0 rfl) ?_
  refine lv_iload_n hx hb ld_L_feed_4 rfl (lv_at hl 1 rfl) ?_
  refine lv_lload_n hx hb ld_L_feed_5 rfl (lv_at hl 2 rfl) ?_
  refine vx_calli (vx_runV (As := [.int a1, .long a2]) (rest := [.int 0, .ref o]) (C := "TableTongue") (Ts := lw_wH ly_L_feed method_3_code 6 (some .int) [(0, 11, 14, 13)]) ⟨hx, hb, hml, hown, hts⟩ (t_X11_feed l hst D q0 s.heap.size fs hf8 hf9 hf10 hf11 a1 a2 hbad) ⟨callB_of 2 hts (lw_GoodInH (List.mem_cons_of_mem _ (lw_in 2103 (by decide +kernel) (by decide +kernel))) (by decide +kernel)) rfl rfl rfl (hts _ (List.mem_cons_of_mem _ (lw_in 394 (by decide +kernel) (by decide +kernel)))) (hts _ (List.mem_cons_of_mem _ (lw_in 2100 (by decide +kernel) (by decide +kernel)))) ⟨by decide, by decide, by decide +kernel⟩ ⟨Nat.le_of_ble_eq_true rfl, Nat.le_of_ble_eq_true rfl⟩, hts _ (List.mem_cons_of_mem _ (lw_in 2101 (by decide +kernel) (by decide +kernel))), hts _ (List.mem_cons_of_mem _ (lw_in 2102 (by decide +kernel) (by decide +kernel)))⟩ ⟨lw_PX.blind, va_recv hK hP (ci := 3) (q0 := 0) rfl rfl, fun U hU hW => ⟨rfl, by rw [hU], by rw [hU]; exact hP, va_K.moved hW.alike hK, hE.go hW hU va_S.rf (fun _ h => h)⟩⟩ rfl rfl hl.1 rfl (lv_room (Nat.le_of_ble_eq_true rfl)) ld_L_feed_6 ⟨Nat.le_of_ble_eq_true rfl, Nat.le_of_ble_eq_true rfl⟩) hS (fun q _ h => h) (fun q h => h) (fun q _ h => h) (fun E ce q9 u t H1 locs1 ht hvm _ hBE hz1 hk1 hS hce hcv hcl => ?_) (fun _ _ _ _ _ _ _ hw _ _ _ _ => hw.elim)
  obtain rfl : E = "java/lang/IllegalArgumentException" := hBE
  refine vx_catch (own := "TableTongueLaw") (name := "java/lang/IllegalArgumentException") hown [] ⟨0, 11, 14, 13⟩ [] (htab.trans rfl) (fun z hz => nomatch hz) (by decide) (by decide) (hts _ (List.mem_cons_of_mem _ (lw_in 2099 (by decide +kernel) (by decide +kernel)))) (va_Nw.use rfl (hE.2.2 _ (List.mem_of_getElem? (i := 1119) (by decide +kernel)) rfl)) hce hcv hcl ?_
  refine lv_astore (lv' := [(5, .ref q9), (0, .ref q0), (1, .int a1), (2, .long a2), (4, .ref o)]) hx hb ld_L_feed_14 hl (by decide) rfl (fun ls hl => ?_)
  refine lv_iconst (v := 1) hx hb ld_L_feed_16 (by decide) ?_
  exact W.iret (v := 1) hx hb hr (fun t ht hW => ⟨⟨1, (), rfl, rfl, trivial⟩, hS.F ht⟩) hS.2.2 ld_L_feed_17
set_option maxHeartbeats 4000000 in
set_option maxRecDepth 100000 in
theorem w_L_fault_bad (l : Launch) (hst : l.stackTraces = false) (D : va_G) (q0 sz : Nat) (fs : List Value) (hf8 : fs[8]? = some (.int 0)) (hf9 : fs[9]? = some (.int 0)) (hf10 : fs[10]? = some (.int (-1))) (hf11 : fs[11]? = some (.int (-1))) (a1 : Int32) (o : Nat) (hbad : a1 < 0 ∨ ¬ a1 ≤ 1) : Met l ly_L_fault (lw_wH ly_L_fault method_4_code 4 (some .int) [(0, 9, 12, 19)]) ({ frames := 10, cells := 1, slots := 6, locals := 220 }) (lw_PX D q0 fs sz [.ref q0, .int a1, .ref o]) (va_Qi (S := Unit) (fun r _ => r = 1) (fun _ _ => True) (fun q => sz ≤ q)) 1 6 (fun q => sz ≤ q) := by
  refine va_MetW (cc := method_4_code) (maxL := 4) (ret := (some .int)) (hh := [(0, 9, 12, 19)]) (by decide) rfl ?_
  intro p e s m args below meth c s₁ B hml hv
  obtain ⟨rfl, hsz, hP, hK, hE⟩ := hv
  subst hsz
  have hx := B.exec
  have hb := B.bytes
  have hr := B.returns
  have hts := atoms_spec (ws := lw_wH ly_L_fault method_4_code 4 (some .int) [(0, 9, 12, 19)]) B.pre
  have hown : s.vm.findClass "TableTongueLaw" = some m.cls := findClass_of_methodNamed B.named
  have htab := vx_table (x := ly_L_fault) B (hts _ List.mem_cons_self)
  have hS : va_S (fun q => s.heap.size ≤ q) s.heap s.heap [] := va_S.rf
  have hl := lv_entry ([.ref q0, .int a1, .ref o]) (n := 4) (Nat.le_of_ble_eq_true rfl)
  rw [lg_entry_eq]
  generalize (lg_sl ([.ref q0, .int a1, .ref o]) ++ List.replicate (4 - (lg_sl ([.ref q0, .int a1, .ref o])).length) Slot.unset).toArray = ls at hl ⊢
  have hl : lv_has ls 4 [(0, .ref q0), (1, .int a1), (2, .ref o)] := hl
  refine lv_aload_n hx hb ld_L_fault_0 rfl (lv_at hl 2 rfl) ?_
  refine lv_iconst (v := 0) hx hb ld_L_fault_1 (by decide) ?_
  refine lv_aload_n hx hb ld_L_fault_2 rfl (lv_at hl 0 rfl) ?_
  refine lv_iload_n hx hb ld_L_fault_3 rfl (lv_at hl 1 rfl) ?_
  refine vx_calli (vx_runV (As := [.int a1]) (rest := [.int 0, .ref o]) (C := "TableTongue") (Ts := lw_wH ly_L_fault method_4_code 4 (some .int) [(0, 9, 12, 19)]) ⟨hx, hb, hml, hown, hts⟩ (t_X11_fault l hst D q0 s.heap.size fs hf8 hf9 hf10 hf11 a1 hbad) ⟨callB_of 1 hts (lw_GoodInH (List.mem_cons_of_mem _ (lw_in 2122 (by decide +kernel) (by decide +kernel))) (by decide +kernel)) rfl rfl rfl (hts _ (List.mem_cons_of_mem _ (lw_in 394 (by decide +kernel) (by decide +kernel)))) (hts _ (List.mem_cons_of_mem _ (lw_in 2119 (by decide +kernel) (by decide +kernel)))) ⟨by decide, by decide, by decide +kernel⟩ ⟨Nat.le_of_ble_eq_true rfl, Nat.le_of_ble_eq_true rfl⟩, hts _ (List.mem_cons_of_mem _ (lw_in 2120 (by decide +kernel) (by decide +kernel))), hts _ (List.mem_cons_of_mem _ (lw_in 2121 (by decide +kernel) (by decide +kernel)))⟩ ⟨lw_PX.blind, va_recv hK hP (ci := 3) (q0 := 0) rfl rfl, fun U hU hW => ⟨rfl, by rw [hU], by rw [hU]; exact hP, va_K.moved hW.alike hK, hE.go hW hU va_S.rf (fun _ h => h)⟩⟩ rfl rfl hl.1 rfl (lv_room (Nat.le_of_ble_eq_true rfl)) ld_L_fault_4 ⟨Nat.le_of_ble_eq_true rfl, Nat.le_of_ble_eq_true rfl⟩) hS (fun q _ h => h) (fun q h => h) (fun q _ h => h) (fun E ce q9 u t H1 locs1 ht hvm _ hBE hz1 hk1 hS hce hcv hcl => ?_) (fun _ _ _ _ _ _ _ hw _ _ _ _ => hw.elim)
  obtain rfl : E = "java/lang/IndexOutOfBoundsException" := hBE
  refine vx_catch (own := "TableTongueLaw") (name := "java/lang/IndexOutOfBoundsException") hown [] ⟨0, 9, 12, 19⟩ [] (htab.trans rfl) (fun z hz => nomatch hz) (by decide) (by decide) (hts _ (List.mem_cons_of_mem _ (lw_in 2118 (by decide +kernel) (by decide +kernel)))) (va_Nw.use rfl (hE.2.2 _ (List.mem_of_getElem? (i := 2125) (by decide +kernel)) rfl)) hce hcv hcl ?_
  refine lv_astore_n (lv' := [(3, .ref q9), (0, .ref q0), (1, .int a1), (2, .ref o)]) hx hb ld_L_fault_12 rfl hl (by decide) rfl (fun ls hl => ?_)
  refine lv_iconst (v := 1) hx hb ld_L_fault_13 (by decide) ?_
  exact W.iret (v := 1) hx hb hr (fun t ht hW => ⟨⟨1, (), rfl, rfl, trivial⟩, hS.F ht⟩) hS.2.2 ld_L_fault_14
set_option maxHeartbeats 4000000 in
set_option maxRecDepth 100000 in
theorem w_L_function_bad (l : Launch) (hst : l.stackTraces = false) (D : va_G) (q0 sz : Nat) (fs : List Value) (hf8 : fs[8]? = some (.int 0)) (hf9 : fs[9]? = some (.int 0)) (hf10 : fs[10]? = some (.int (-1))) (hf11 : fs[11]? = some (.int (-1))) (a1 : Int32) (a2 : Int32) (o : Nat)  : Met l ly_L_function (lw_wH ly_L_function method_5_code 5 (some .int) [(0, 10, 13, 19)]) ({ frames := 10, cells := 1, slots := 6, locals := 220 }) (lw_PX D q0 fs sz [.ref q0, .int a1, .int a2, .ref o]) (va_Qi (S := Unit) (fun r _ => r = 1) (fun _ _ => True) (fun q => sz ≤ q)) 1 6 (fun q => sz ≤ q) := by
  refine va_MetW (cc := method_5_code) (maxL := 5) (ret := (some .int)) (hh := [(0, 10, 13, 19)]) (by decide) rfl ?_
  intro p e s m args below meth c s₁ B hml hv
  obtain ⟨rfl, hsz, hP, hK, hE⟩ := hv
  subst hsz
  have hx := B.exec
  have hb := B.bytes
  have hr := B.returns
  have hts := atoms_spec (ws := lw_wH ly_L_function method_5_code 5 (some .int) [(0, 10, 13, 19)]) B.pre
  have hown : s.vm.findClass "TableTongueLaw" = some m.cls := findClass_of_methodNamed B.named
  have htab := vx_table (x := ly_L_function) B (hts _ List.mem_cons_self)
  have hS : va_S (fun q => s.heap.size ≤ q) s.heap s.heap [] := va_S.rf
  have hl := lv_entry ([.ref q0, .int a1, .int a2, .ref o]) (n := 5) (Nat.le_of_ble_eq_true rfl)
  rw [lg_entry_eq]
  generalize (lg_sl ([.ref q0, .int a1, .int a2, .ref o]) ++ List.replicate (5 - (lg_sl ([.ref q0, .int a1, .int a2, .ref o])).length) Slot.unset).toArray = ls at hl ⊢
  have hl : lv_has ls 5 [(0, .ref q0), (1, .int a1), (2, .int a2), (3, .ref o)] := hl
  refine lv_aload_n hx hb ld_L_function_0 rfl (lv_at hl 3 rfl) ?_
  refine lv_iconst (v := 0) hx hb ld_L_function_1 (by decide) ?_
  refine lv_aload_n hx hb ld_L_function_2 rfl (lv_at hl 0 rfl) ?_
  refine lv_iload_n hx hb ld_L_function_3 rfl (lv_at hl 1 rfl) ?_
  refine lv_iload_n hx hb ld_L_function_4 rfl (lv_at hl 2 rfl) ?_
  refine vx_calli (vx_runV (As := [.int a1, .int a2]) (rest := [.int 0, .ref o]) (C := "TableTongue") (Ts := lw_wH ly_L_function method_5_code 5 (some .int) [(0, 10, 13, 19)]) ⟨hx, hb, hml, hown, hts⟩ (t_X11_function l hst D q0 s.heap.size fs hf8 hf9 hf10 hf11 a1 a2) ⟨callB_of 2 hts (lw_GoodInH (List.mem_cons_of_mem _ (lw_in 2144 (by decide +kernel) (by decide +kernel))) (by decide +kernel)) rfl rfl rfl (hts _ (List.mem_cons_of_mem _ (lw_in 394 (by decide +kernel) (by decide +kernel)))) (hts _ (List.mem_cons_of_mem _ (lw_in 2141 (by decide +kernel) (by decide +kernel)))) ⟨by decide, by decide, by decide +kernel⟩ ⟨Nat.le_of_ble_eq_true rfl, Nat.le_of_ble_eq_true rfl⟩, hts _ (List.mem_cons_of_mem _ (lw_in 2142 (by decide +kernel) (by decide +kernel))), hts _ (List.mem_cons_of_mem _ (lw_in 2143 (by decide +kernel) (by decide +kernel)))⟩ ⟨lw_PX.blind, va_recv hK hP (ci := 3) (q0 := 0) rfl rfl, fun U hU hW => ⟨rfl, by rw [hU], by rw [hU]; exact hP, va_K.moved hW.alike hK, hE.go hW hU va_S.rf (fun _ h => h)⟩⟩ rfl rfl hl.1 rfl (lv_room (Nat.le_of_ble_eq_true rfl)) ld_L_function_5 ⟨Nat.le_of_ble_eq_true rfl, Nat.le_of_ble_eq_true rfl⟩) hS (fun q _ h => h) (fun q h => h) (fun q _ h => h) (fun E ce q9 u t H1 locs1 ht hvm _ hBE hz1 hk1 hS hce hcv hcl => ?_) (fun _ _ _ _ _ _ _ hw _ _ _ _ => hw.elim)
  obtain rfl : E = "java/lang/IndexOutOfBoundsException" := hBE
  refine vx_catch (own := "TableTongueLaw") (name := "java/lang/IndexOutOfBoundsException") hown [] ⟨0, 10, 13, 19⟩ [] (htab.trans rfl) (fun z hz => nomatch hz) (by decide) (by decide) (hts _ (List.mem_cons_of_mem _ (lw_in 2118 (by decide +kernel) (by decide +kernel)))) (va_Nw.use rfl (hE.2.2 _ (List.mem_of_getElem? (i := 2125) (by decide +kernel)) rfl)) hce hcv hcl ?_
  refine lv_astore (lv' := [(4, .ref q9), (0, .ref q0), (1, .int a1), (2, .int a2), (3, .ref o)]) hx hb ld_L_function_13 hl (by decide) rfl (fun ls hl => ?_)
  refine lv_iconst (v := 1) hx hb ld_L_function_15 (by decide) ?_
  exact W.iret (v := 1) hx hb hr (fun t ht hW => ⟨⟨1, (), rfl, rfl, trivial⟩, hS.F ht⟩) hS.2.2 ld_L_function_16
set_option maxHeartbeats 4000000 in
set_option maxRecDepth 100000 in
theorem w_L_load_bad (l : Launch) (hst : l.stackTraces = false) (D : va_G) (q0 sz : Nat) (fs : List Value) (hf8 : fs[8]? = some (.int 0)) (hf9 : fs[9]? = some (.int 0)) (hf10 : fs[10]? = some (.int (-1))) (hf11 : fs[11]? = some (.int (-1)))   : Met l ly_L_load (lw_wH ly_L_load method_6_code 2 (some .int) [(0, 4, 7, 28)]) ({ frames := 10, cells := 1, slots := 6, locals := 220 }) (lw_PX D q0 fs sz [.ref q0]) (va_Qi (S := Unit) (fun r _ => r = 1) (fun _ _ => True) (fun q => sz ≤ q)) 1 6 (fun q => sz ≤ q) := by
  refine va_MetW (cc := method_6_code) (maxL := 2) (ret := (some .int)) (hh := [(0, 4, 7, 28)]) (by decide) rfl ?_
  intro p e s m args below meth c s₁ B hml hv
  obtain ⟨rfl, hsz, hP, hK, hE⟩ := hv
  subst hsz
  have hx := B.exec
  have hb := B.bytes
  have hr := B.returns
  have hts := atoms_spec (ws := lw_wH ly_L_load method_6_code 2 (some .int) [(0, 4, 7, 28)]) B.pre
  have hown : s.vm.findClass "TableTongueLaw" = some m.cls := findClass_of_methodNamed B.named
  have htab := vx_table (x := ly_L_load) B (hts _ List.mem_cons_self)
  have hS : va_S (fun q => s.heap.size ≤ q) s.heap s.heap [] := va_S.rf
  have hl := lv_entry ([.ref q0]) (n := 2) (Nat.le_of_ble_eq_true rfl)
  rw [lg_entry_eq]
  generalize (lg_sl ([.ref q0]) ++ List.replicate (2 - (lg_sl ([.ref q0])).length) Slot.unset).toArray = ls at hl ⊢
  have hl : lv_has ls 2 [(0, .ref q0)] := hl
  refine lv_aload_n hx hb ld_L_load_0 rfl (lv_at hl 0 rfl) ?_
  refine vx_callv (vx_runV (As := []) (rest := []) (C := "TableTongue") (Ts := lw_wH ly_L_load method_6_code 2 (some .int) [(0, 4, 7, 28)]) ⟨hx, hb, hml, hown, hts⟩ (t_X11_load l hst D q0 s.heap.size fs hf8 hf9 hf10 hf11 ) ⟨callB_of 0 hts (lw_GoodInH (List.mem_cons_of_mem _ (lw_in 2152 (by decide +kernel) (by decide +kernel))) (by decide +kernel)) rfl rfl rfl (hts _ (List.mem_cons_of_mem _ (lw_in 394 (by decide +kernel) (by decide +kernel)))) (hts _ (List.mem_cons_of_mem _ (lw_in 2149 (by decide +kernel) (by decide +kernel)))) ⟨by decide, by decide, by decide +kernel⟩ ⟨Nat.le_of_ble_eq_true rfl, Nat.le_of_ble_eq_true rfl⟩, hts _ (List.mem_cons_of_mem _ (lw_in 2150 (by decide +kernel) (by decide +kernel))), hts _ (List.mem_cons_of_mem _ (lw_in 2151 (by decide +kernel) (by decide +kernel)))⟩ ⟨lw_PX.blind, va_recv hK hP (ci := 3) (q0 := 0) rfl rfl, fun U hU hW => ⟨rfl, by rw [hU], by rw [hU]; exact hP, va_K.moved hW.alike hK, hE.go hW hU va_S.rf (fun _ h => h)⟩⟩ rfl rfl hl.1 rfl (lv_room (Nat.le_of_ble_eq_true rfl)) ld_L_load_1 ⟨Nat.le_of_ble_eq_true rfl, Nat.le_of_ble_eq_true rfl⟩) hS (fun q _ h => h) (fun q h => h) (fun q _ h => h) (fun E ce q9 u t H1 locs1 ht hvm _ hBE hz1 hk1 hS hce hcv hcl => ?_) (fun _ _ _ _ _ _ hw _ _ _ _ => hw.elim)
  obtain rfl : E = "java/lang/IllegalStateException" := hBE
  refine vx_catch (own := "TableTongueLaw") (name := "java/lang/IllegalStateException") hown [] ⟨0, 4, 7, 28⟩ [] (htab.trans rfl) (fun z hz => nomatch hz) (by decide) (by decide) (hts _ (List.mem_cons_of_mem _ (lw_in 2148 (by decide +kernel) (by decide +kernel)))) (va_Nw.use rfl (hE.2.2 _ (List.mem_of_getElem? (i := 2155) (by decide +kernel)) rfl)) hce hcv hcl ?_
  refine lv_astore_n (lv' := [(1, .ref q9), (0, .ref q0)]) hx hb ld_L_load_7 rfl hl (by decide) rfl (fun ls hl => ?_)
  refine lv_iconst (v := 1) hx hb ld_L_load_8 (by decide) ?_
  exact W.iret (v := 1) hx hb hr (fun t ht hW => ⟨⟨1, (), rfl, rfl, trivial⟩, hS.F ht⟩) hS.2.2 ld_L_load_9
set_option maxHeartbeats 4000000 in
set_option maxRecDepth 100000 in
theorem w_L_run_bad (l : Launch) (hst : l.stackTraces = false) (D : va_G) (q0 sz : Nat) (fs : List Value) (hf8 : fs[8]? = some (.int 0)) (hf9 : fs[9]? = some (.int 0)) (hf10 : fs[10]? = some (.int (-1))) (hf11 : fs[11]? = some (.int (-1))) (a1 : Int32) (o : Nat)  : Met l ly_L_run (lw_wH ly_L_run method_7_code 4 (some .int) [(0, 9, 12, 28), (0, 9, 15, 13)]) ({ frames := 10, cells := 1, slots := 6, locals := 220 }) (lw_PX D q0 fs sz [.ref q0, .int a1, .ref o]) (va_Qi (S := Unit) (fun r _ => r = 1) (fun _ _ => True) (fun q => sz ≤ q)) 1 6 (fun q => sz ≤ q) := by
  refine va_MetW (cc := method_7_code) (maxL := 4) (ret := (some .int)) (hh := [(0, 9, 12, 28), (0, 9, 15, 13)]) (by decide) rfl ?_
  intro p e s m args below meth c s₁ B hml hv
  obtain ⟨rfl, hsz, hP, hK, hE⟩ := hv
  subst hsz
  have hx := B.exec
  have hb := B.bytes
  have hr := B.returns
  have hts := atoms_spec (ws := lw_wH ly_L_run method_7_code 4 (some .int) [(0, 9, 12, 28), (0, 9, 15, 13)]) B.pre
  have hown : s.vm.findClass "TableTongueLaw" = some m.cls := findClass_of_methodNamed B.named
  have htab := vx_table (x := ly_L_run) B (hts _ List.mem_cons_self)
  have hS : va_S (fun q => s.heap.size ≤ q) s.heap s.heap [] := va_S.rf
  have hl := lv_entry ([.ref q0, .int a1, .ref o]) (n := 4) (Nat.le_of_ble_eq_true rfl)
  rw [lg_entry_eq]
  generalize (lg_sl ([.ref q0, .int a1, .ref o]) ++ List.replicate (4 - (lg_sl ([.ref q0, .int a1, .ref o])).length) Slot.unset).toArray = ls at hl ⊢
  have hl : lv_has ls 4 [(0, .ref q0), (1, .int a1), (2, .ref o)] := hl
  refine lv_aload_n hx hb ld_L_run_0 rfl (lv_at hl 2 rfl) ?_
  refine lv_iconst (v := 0) hx hb ld_L_run_1 (by decide) ?_
  refine lv_aload_n hx hb ld_L_run_2 rfl (lv_at hl 0 rfl) ?_
  refine lv_iload_n hx hb ld_L_run_3 rfl (lv_at hl 1 rfl) ?_
  refine vx_calli (vx_runV (As := [.int a1]) (rest := [.int 0, .ref o]) (C := "TableTongue") (Ts := lw_wH ly_L_run method_7_code 4 (some .int) [(0, 9, 12, 28), (0, 9, 15, 13)]) ⟨hx, hb, hml, hown, hts⟩ (t_X11_run l hst D q0 s.heap.size fs hf8 hf9 hf10 hf11 a1) ⟨callB_of 1 hts (lw_GoodInH (List.mem_cons_of_mem _ (lw_in 2174 (by decide +kernel) (by decide +kernel))) (by decide +kernel)) rfl rfl rfl (hts _ (List.mem_cons_of_mem _ (lw_in 394 (by decide +kernel) (by decide +kernel)))) (hts _ (List.mem_cons_of_mem _ (lw_in 2171 (by decide +kernel) (by decide +kernel)))) ⟨by decide, by decide, by decide +kernel⟩ ⟨Nat.le_of_ble_eq_true rfl, Nat.le_of_ble_eq_true rfl⟩, hts _ (List.mem_cons_of_mem _ (lw_in 2172 (by decide +kernel) (by decide +kernel))), hts _ (List.mem_cons_of_mem _ (lw_in 2173 (by decide +kernel) (by decide +kernel)))⟩ ⟨lw_PX.blind, va_recv hK hP (ci := 3) (q0 := 0) rfl rfl, fun U hU hW => ⟨rfl, by rw [hU], by rw [hU]; exact hP, va_K.moved hW.alike hK, hE.go hW hU va_S.rf (fun _ h => h)⟩⟩ rfl rfl hl.1 rfl (lv_room (Nat.le_of_ble_eq_true rfl)) ld_L_run_4 ⟨Nat.le_of_ble_eq_true rfl, Nat.le_of_ble_eq_true rfl⟩) hS (fun q _ h => h) (fun q h => h) (fun q _ h => h) (fun E ce q9 u t H1 locs1 ht hvm _ hBE hz1 hk1 hS hce hcv hcl => ?_) (fun _ _ _ _ _ _ _ hw _ _ _ _ => hw.elim)
  obtain rfl : E = "java/lang/IllegalStateException" := hBE
  refine vx_catch (own := "TableTongueLaw") (name := "java/lang/IllegalStateException") hown [] ⟨0, 9, 12, 28⟩ [⟨0, 9, 15, 13⟩] (htab.trans rfl) (fun z hz => nomatch hz) (by decide) (by decide) (hts _ (List.mem_cons_of_mem _ (lw_in 2148 (by decide +kernel) (by decide +kernel)))) (va_Nw.use rfl (hE.2.2 _ (List.mem_of_getElem? (i := 2155) (by decide +kernel)) rfl)) hce hcv hcl ?_
  refine lv_astore_n (lv' := [(3, .ref q9), (0, .ref q0), (1, .int a1), (2, .ref o)]) hx hb ld_L_run_12 rfl hl (by decide) rfl (fun ls hl => ?_)
  refine lv_iconst (v := 1) hx hb ld_L_run_13 (by decide) ?_
  exact W.iret (v := 1) hx hb hr (fun t ht hW => ⟨⟨1, (), rfl, rfl, trivial⟩, hS.F ht⟩) hS.2.2 ld_L_run_14
set_option maxHeartbeats 4000000 in
set_option maxRecDepth 100000 in
theorem w_L_result_bad (l : Launch) (hst : l.stackTraces = false) (D : va_G) (q0 sz : Nat) (fs : List Value) (hf8 : fs[8]? = some (.int 0)) (hf9 : fs[9]? = some (.int 0)) (hf10 : fs[10]? = some (.int (-1))) (hf11 : fs[11]? = some (.int (-1))) (a1 : Int32) (a2 : Int32) (o : Nat)  : Met l ly_L_result (lw_wH ly_L_result method_8_code 5 (some .int) [(0, 9, 12, 19)]) ({ frames := 10, cells := 1, slots := 6, locals := 220 }) (lw_PX D q0 fs sz [.ref q0, .int a1, .int a2, .ref o]) (va_Qi (S := Unit) (fun r _ => r = 1) (fun _ _ => True) (fun q => sz ≤ q)) 1 6 (fun q => sz ≤ q) := by
  refine va_MetW (cc := method_8_code) (maxL := 5) (ret := (some .int)) (hh := [(0, 9, 12, 19)]) (by decide) rfl ?_
  intro p e s m args below meth c s₁ B hml hv
  obtain ⟨rfl, hsz, hP, hK, hE⟩ := hv
  subst hsz
  have hx := B.exec
  have hb := B.bytes
  have hr := B.returns
  have hts := atoms_spec (ws := lw_wH ly_L_result method_8_code 5 (some .int) [(0, 9, 12, 19)]) B.pre
  have hown : s.vm.findClass "TableTongueLaw" = some m.cls := findClass_of_methodNamed B.named
  have htab := vx_table (x := ly_L_result) B (hts _ List.mem_cons_self)
  have hS : va_S (fun q => s.heap.size ≤ q) s.heap s.heap [] := va_S.rf
  have hl := lv_entry ([.ref q0, .int a1, .int a2, .ref o]) (n := 5) (Nat.le_of_ble_eq_true rfl)
  rw [lg_entry_eq]
  generalize (lg_sl ([.ref q0, .int a1, .int a2, .ref o]) ++ List.replicate (5 - (lg_sl ([.ref q0, .int a1, .int a2, .ref o])).length) Slot.unset).toArray = ls at hl ⊢
  have hl : lv_has ls 5 [(0, .ref q0), (1, .int a1), (2, .int a2), (3, .ref o)] := hl
  refine lv_aload_n hx hb ld_L_result_0 rfl (lv_at hl 3 rfl) ?_
  refine lv_iconst (v := 0) hx hb ld_L_result_1 (by decide) ?_
  refine lv_aload_n hx hb ld_L_result_2 rfl (lv_at hl 0 rfl) ?_
  refine lv_iload_n hx hb ld_L_result_3 rfl (lv_at hl 1 rfl) ?_
  refine lv_iload_n hx hb ld_L_result_4 rfl (lv_at hl 2 rfl) ?_
  refine vx_calll (vx_runV (As := [.int a1, .int a2]) (rest := [.int 0, .ref o]) (C := "TableTongue") (Ts := lw_wH ly_L_result method_8_code 5 (some .int) [(0, 9, 12, 19)]) ⟨hx, hb, hml, hown, hts⟩ (t_X11_result l hst D q0 s.heap.size fs hf8 hf9 hf10 hf11 a1 a2) ⟨callB_of 2 hts (lw_GoodInH (List.mem_cons_of_mem _ (lw_in 2907 (by decide +kernel) (by decide +kernel))) (by decide +kernel)) rfl rfl rfl (hts _ (List.mem_cons_of_mem _ (lw_in 394 (by decide +kernel) (by decide +kernel)))) (hts _ (List.mem_cons_of_mem _ (lw_in 2904 (by decide +kernel) (by decide +kernel)))) ⟨by decide, by decide, by decide +kernel⟩ ⟨Nat.le_of_ble_eq_true rfl, Nat.le_of_ble_eq_true rfl⟩, hts _ (List.mem_cons_of_mem _ (lw_in 2905 (by decide +kernel) (by decide +kernel))), hts _ (List.mem_cons_of_mem _ (lw_in 2906 (by decide +kernel) (by decide +kernel)))⟩ ⟨lw_PX.blind, va_recv hK hP (ci := 3) (q0 := 0) rfl rfl, fun U hU hW => ⟨rfl, by rw [hU], by rw [hU]; exact hP, va_K.moved hW.alike hK, hE.go hW hU va_S.rf (fun _ h => h)⟩⟩ rfl rfl hl.1 rfl (lv_room (Nat.le_of_ble_eq_true rfl)) ld_L_result_5 ⟨Nat.le_of_ble_eq_true rfl, Nat.le_of_ble_eq_true rfl⟩) hS (fun q _ h => h) (fun q h => h) (fun q _ h => h) (fun E ce q9 u t H1 locs1 ht hvm _ hBE hz1 hk1 hS hce hcv hcl => ?_) (fun _ _ _ _ _ _ _ hw _ _ _ _ => hw.elim)
  obtain rfl : E = "java/lang/IndexOutOfBoundsException" := hBE
  refine vx_catch (own := "TableTongueLaw") (name := "java/lang/IndexOutOfBoundsException") hown [] ⟨0, 9, 12, 19⟩ [] (htab.trans rfl) (fun z hz => nomatch hz) (by decide) (by decide) (hts _ (List.mem_cons_of_mem _ (lw_in 2118 (by decide +kernel) (by decide +kernel)))) (va_Nw.use rfl (hE.2.2 _ (List.mem_of_getElem? (i := 2125) (by decide +kernel)) rfl)) hce hcv hcl ?_
  refine lv_astore (lv' := [(4, .ref q9), (0, .ref q0), (1, .int a1), (2, .int a2), (3, .ref o)]) hx hb ld_L_result_12 hl (by decide) rfl (fun ls hl => ?_)
  refine lv_iconst (v := 1) hx hb ld_L_result_14 (by decide) ?_
  exact W.iret (v := 1) hx hb hr (fun t ht hW => ⟨⟨1, (), rfl, rfl, trivial⟩, hS.F ht⟩) hS.2.2 ld_L_result_15
set_option maxHeartbeats 4000000 in
set_option maxRecDepth 100000 in
theorem w_L_resultByte_bad (l : Launch) (hst : l.stackTraces = false) (D : va_G) (q0 sz : Nat) (fs : List Value) (hf8 : fs[8]? = some (.int 0)) (hf9 : fs[9]? = some (.int 0)) (hf10 : fs[10]? = some (.int (-1))) (hf11 : fs[11]? = some (.int (-1))) (a1 : Int32) (a2 : Int32) (o : Nat)  : Met l ly_L_resultByte (lw_wH ly_L_resultByte method_9_code 5 (some .int) [(0, 10, 13, 19)]) ({ frames := 10, cells := 1, slots := 6, locals := 220 }) (lw_PX D q0 fs sz [.ref q0, .int a1, .int a2, .ref o]) (va_Qi (S := Unit) (fun r _ => r = 1) (fun _ _ => True) (fun q => sz ≤ q)) 1 6 (fun q => sz ≤ q) := by
  refine va_MetW (cc := method_9_code) (maxL := 5) (ret := (some .int)) (hh := [(0, 10, 13, 19)]) (by decide) rfl ?_
  intro p e s m args below meth c s₁ B hml hv
  obtain ⟨rfl, hsz, hP, hK, hE⟩ := hv
  subst hsz
  have hx := B.exec
  have hb := B.bytes
  have hr := B.returns
  have hts := atoms_spec (ws := lw_wH ly_L_resultByte method_9_code 5 (some .int) [(0, 10, 13, 19)]) B.pre
  have hown : s.vm.findClass "TableTongueLaw" = some m.cls := findClass_of_methodNamed B.named
  have htab := vx_table (x := ly_L_resultByte) B (hts _ List.mem_cons_self)
  have hS : va_S (fun q => s.heap.size ≤ q) s.heap s.heap [] := va_S.rf
  have hl := lv_entry ([.ref q0, .int a1, .int a2, .ref o]) (n := 5) (Nat.le_of_ble_eq_true rfl)
  rw [lg_entry_eq]
  generalize (lg_sl ([.ref q0, .int a1, .int a2, .ref o]) ++ List.replicate (5 - (lg_sl ([.ref q0, .int a1, .int a2, .ref o])).length) Slot.unset).toArray = ls at hl ⊢
  have hl : lv_has ls 5 [(0, .ref q0), (1, .int a1), (2, .int a2), (3, .ref o)] := hl
  refine lv_aload_n hx hb ld_L_resultByte_0 rfl (lv_at hl 3 rfl) ?_
  refine lv_iconst (v := 0) hx hb ld_L_resultByte_1 (by decide) ?_
  refine lv_aload_n hx hb ld_L_resultByte_2 rfl (lv_at hl 0 rfl) ?_
  refine lv_iload_n hx hb ld_L_resultByte_3 rfl (lv_at hl 1 rfl) ?_
  refine lv_iload_n hx hb ld_L_resultByte_4 rfl (lv_at hl 2 rfl) ?_
  refine vx_calli (vx_runV (As := [.int a1, .int a2]) (rest := [.int 0, .ref o]) (C := "TableTongue") (Ts := lw_wH ly_L_resultByte method_9_code 5 (some .int) [(0, 10, 13, 19)]) ⟨hx, hb, hml, hown, hts⟩ (t_X11_resultByte l hst D q0 s.heap.size fs hf8 hf9 hf10 hf11 a1 a2) ⟨callB_of 2 hts (lw_GoodInH (List.mem_cons_of_mem _ (lw_in 2921 (by decide +kernel) (by decide +kernel))) (by decide +kernel)) rfl rfl rfl (hts _ (List.mem_cons_of_mem _ (lw_in 394 (by decide +kernel) (by decide +kernel)))) (hts _ (List.mem_cons_of_mem _ (lw_in 2918 (by decide +kernel) (by decide +kernel)))) ⟨by decide, by decide, by decide +kernel⟩ ⟨Nat.le_of_ble_eq_true rfl, Nat.le_of_ble_eq_true rfl⟩, hts _ (List.mem_cons_of_mem _ (lw_in 2919 (by decide +kernel) (by decide +kernel))), hts _ (List.mem_cons_of_mem _ (lw_in 2920 (by decide +kernel) (by decide +kernel)))⟩ ⟨lw_PX.blind, va_recv hK hP (ci := 3) (q0 := 0) rfl rfl, fun U hU hW => ⟨rfl, by rw [hU], by rw [hU]; exact hP, va_K.moved hW.alike hK, hE.go hW hU va_S.rf (fun _ h => h)⟩⟩ rfl rfl hl.1 rfl (lv_room (Nat.le_of_ble_eq_true rfl)) ld_L_resultByte_5 ⟨Nat.le_of_ble_eq_true rfl, Nat.le_of_ble_eq_true rfl⟩) hS (fun q _ h => h) (fun q h => h) (fun q _ h => h) (fun E ce q9 u t H1 locs1 ht hvm _ hBE hz1 hk1 hS hce hcv hcl => ?_) (fun _ _ _ _ _ _ _ hw _ _ _ _ => hw.elim)
  obtain rfl : E = "java/lang/IndexOutOfBoundsException" := hBE
  refine vx_catch (own := "TableTongueLaw") (name := "java/lang/IndexOutOfBoundsException") hown [] ⟨0, 10, 13, 19⟩ [] (htab.trans rfl) (fun z hz => nomatch hz) (by decide) (by decide) (hts _ (List.mem_cons_of_mem _ (lw_in 2118 (by decide +kernel) (by decide +kernel)))) (va_Nw.use rfl (hE.2.2 _ (List.mem_of_getElem? (i := 2125) (by decide +kernel)) rfl)) hce hcv hcl ?_
  refine lv_astore (lv' := [(4, .ref q9), (0, .ref q0), (1, .int a1), (2, .int a2), (3, .ref o)]) hx hb ld_L_resultByte_13 hl (by decide) rfl (fun ls hl => ?_)
  refine lv_iconst (v := 1) hx hb ld_L_resultByte_15 (by decide) ?_
  exact W.iret (v := 1) hx hb hr (fun t ht hW => ⟨⟨1, (), rfl, rfl, trivial⟩, hS.F ht⟩) hS.2.2 ld_L_resultByte_16
set_option maxHeartbeats 4000000 in
set_option maxRecDepth 100000 in
theorem w_L_output_bad (l : Launch) (hst : l.stackTraces = false) (D : va_G) (q0 sz : Nat) (fs : List Value) (hf8 : fs[8]? = some (.int 0)) (hf9 : fs[9]? = some (.int 0)) (hf10 : fs[10]? = some (.int (-1))) (hf11 : fs[11]? = some (.int (-1))) (a1 : Int32) (o : Nat)  : Met l ly_L_output (lw_wH ly_L_output method_10_code 4 (some .int) [(0, 9, 12, 19)]) ({ frames := 10, cells := 1, slots := 6, locals := 220 }) (lw_PX D q0 fs sz [.ref q0, .int a1, .ref o]) (va_Qi (S := Unit) (fun r _ => r = 1) (fun _ _ => True) (fun q => sz ≤ q)) 1 6 (fun q => sz ≤ q) := by
  refine va_MetW (cc := method_10_code) (maxL := 4) (ret := (some .int)) (hh := [(0, 9, 12, 19)]) (by decide) rfl ?_
  intro p e s m args below meth c s₁ B hml hv
  obtain ⟨rfl, hsz, hP, hK, hE⟩ := hv
  subst hsz
  have hx := B.exec
  have hb := B.bytes
  have hr := B.returns
  have hts := atoms_spec (ws := lw_wH ly_L_output method_10_code 4 (some .int) [(0, 9, 12, 19)]) B.pre
  have hown : s.vm.findClass "TableTongueLaw" = some m.cls := findClass_of_methodNamed B.named
  have htab := vx_table (x := ly_L_output) B (hts _ List.mem_cons_self)
  have hS : va_S (fun q => s.heap.size ≤ q) s.heap s.heap [] := va_S.rf
  have hl := lv_entry ([.ref q0, .int a1, .ref o]) (n := 4) (Nat.le_of_ble_eq_true rfl)
  rw [lg_entry_eq]
  generalize (lg_sl ([.ref q0, .int a1, .ref o]) ++ List.replicate (4 - (lg_sl ([.ref q0, .int a1, .ref o])).length) Slot.unset).toArray = ls at hl ⊢
  have hl : lv_has ls 4 [(0, .ref q0), (1, .int a1), (2, .ref o)] := hl
  refine lv_aload_n hx hb ld_L_output_0 rfl (lv_at hl 2 rfl) ?_
  refine lv_iconst (v := 0) hx hb ld_L_output_1 (by decide) ?_
  refine lv_aload_n hx hb ld_L_output_2 rfl (lv_at hl 0 rfl) ?_
  refine lv_iload_n hx hb ld_L_output_3 rfl (lv_at hl 1 rfl) ?_
  refine vx_calli (vx_runV (As := [.int a1]) (rest := [.int 0, .ref o]) (C := "TableTongue") (Ts := lw_wH ly_L_output method_10_code 4 (some .int) [(0, 9, 12, 19)]) ⟨hx, hb, hml, hown, hts⟩ (t_X11_output l hst D q0 s.heap.size fs hf8 hf9 hf10 hf11 a1) ⟨callB_of 1 hts (lw_GoodInH (List.mem_cons_of_mem _ (lw_in 2929 (by decide +kernel) (by decide +kernel))) (by decide +kernel)) rfl rfl rfl (hts _ (List.mem_cons_of_mem _ (lw_in 394 (by decide +kernel) (by decide +kernel)))) (hts _ (List.mem_cons_of_mem _ (lw_in 2926 (by decide +kernel) (by decide +kernel)))) ⟨by decide, by decide, by decide +kernel⟩ ⟨Nat.le_of_ble_eq_true rfl, Nat.le_of_ble_eq_true rfl⟩, hts _ (List.mem_cons_of_mem _ (lw_in 2927 (by decide +kernel) (by decide +kernel))), hts _ (List.mem_cons_of_mem _ (lw_in 2928 (by decide +kernel) (by decide +kernel)))⟩ ⟨lw_PX.blind, va_recv hK hP (ci := 3) (q0 := 0) rfl rfl, fun U hU hW => ⟨rfl, by rw [hU], by rw [hU]; exact hP, va_K.moved hW.alike hK, hE.go hW hU va_S.rf (fun _ h => h)⟩⟩ rfl rfl hl.1 rfl (lv_room (Nat.le_of_ble_eq_true rfl)) ld_L_output_4 ⟨Nat.le_of_ble_eq_true rfl, Nat.le_of_ble_eq_true rfl⟩) hS (fun q _ h => h) (fun q h => h) (fun q _ h => h) (fun E ce q9 u t H1 locs1 ht hvm _ hBE hz1 hk1 hS hce hcv hcl => ?_) (fun _ _ _ _ _ _ _ hw _ _ _ _ => hw.elim)
  obtain rfl : E = "java/lang/IndexOutOfBoundsException" := hBE
  refine vx_catch (own := "TableTongueLaw") (name := "java/lang/IndexOutOfBoundsException") hown [] ⟨0, 9, 12, 19⟩ [] (htab.trans rfl) (fun z hz => nomatch hz) (by decide) (by decide) (hts _ (List.mem_cons_of_mem _ (lw_in 2118 (by decide +kernel) (by decide +kernel)))) (va_Nw.use rfl (hE.2.2 _ (List.mem_of_getElem? (i := 2125) (by decide +kernel)) rfl)) hce hcv hcl ?_
  refine lv_astore_n (lv' := [(3, .ref q9), (0, .ref q0), (1, .int a1), (2, .ref o)]) hx hb ld_L_output_12 rfl hl (by decide) rfl (fun ls hl => ?_)
  refine lv_iconst (v := 1) hx hb ld_L_output_13 (by decide) ?_
  exact W.iret (v := 1) hx hb hr (fun t ht hW => ⟨⟨1, (), rfl, rfl, trivial⟩, hS.F ht⟩) hS.2.2 ld_L_output_14
set_option maxHeartbeats 4000000 in
set_option maxRecDepth 100000 in
theorem w_L_count_bad (l : Launch) (hst : l.stackTraces = false) (D : va_G) (q0 sz : Nat) (fs : List Value) (hf8 : fs[8]? = some (.int 0)) (hf9 : fs[9]? = some (.int 0)) (hf10 : fs[10]? = some (.int (-1))) (hf11 : fs[11]? = some (.int (-1))) (a1 : Int32) (o : Nat) (hbad : a1 < 0 ∨ ¬ a1 ≤ 5) : Met l ly_L_count (lw_wH ly_L_count method_11_code 4 (some .int) [(0, 9, 12, 19)]) ({ frames := 10, cells := 1, slots := 6, locals := 220 }) (lw_PX D q0 fs sz [.ref q0, .int a1, .ref o]) (va_Qi (S := Unit) (fun r _ => r = 1) (fun _ _ => True) (fun q => sz ≤ q)) 1 6 (fun q => sz ≤ q) := by
  refine va_MetW (cc := method_11_code) (maxL := 4) (ret := (some .int)) (hh := [(0, 9, 12, 19)]) (by decide) rfl ?_
  intro p e s m args below meth c s₁ B hml hv
  obtain ⟨rfl, hsz, hP, hK, hE⟩ := hv
  subst hsz
  have hx := B.exec
  have hb := B.bytes
  have hr := B.returns
  have hts := atoms_spec (ws := lw_wH ly_L_count method_11_code 4 (some .int) [(0, 9, 12, 19)]) B.pre
  have hown : s.vm.findClass "TableTongueLaw" = some m.cls := findClass_of_methodNamed B.named
  have htab := vx_table (x := ly_L_count) B (hts _ List.mem_cons_self)
  have hS : va_S (fun q => s.heap.size ≤ q) s.heap s.heap [] := va_S.rf
  have hl := lv_entry ([.ref q0, .int a1, .ref o]) (n := 4) (Nat.le_of_ble_eq_true rfl)
  rw [lg_entry_eq]
  generalize (lg_sl ([.ref q0, .int a1, .ref o]) ++ List.replicate (4 - (lg_sl ([.ref q0, .int a1, .ref o])).length) Slot.unset).toArray = ls at hl ⊢
  have hl : lv_has ls 4 [(0, .ref q0), (1, .int a1), (2, .ref o)] := hl
  refine lv_aload_n hx hb ld_L_count_0 rfl (lv_at hl 2 rfl) ?_
  refine lv_iconst (v := 0) hx hb ld_L_count_1 (by decide) ?_
  refine lv_aload_n hx hb ld_L_count_2 rfl (lv_at hl 0 rfl) ?_
  refine lv_iload_n hx hb ld_L_count_3 rfl (lv_at hl 1 rfl) ?_
  refine vx_calli (vx_runV (As := [.int a1]) (rest := [.int 0, .ref o]) (C := "TableTongue") (Ts := lw_wH ly_L_count method_11_code 4 (some .int) [(0, 9, 12, 19)]) ⟨hx, hb, hml, hown, hts⟩ (t_X11_count l hst D q0 s.heap.size fs hf8 hf9 hf10 hf11 a1 hbad) ⟨callB_of 1 hts (lw_GoodInH (List.mem_cons_of_mem _ (lw_in 2937 (by decide +kernel) (by decide +kernel))) (by decide +kernel)) rfl rfl rfl (hts _ (List.mem_cons_of_mem _ (lw_in 394 (by decide +kernel) (by decide +kernel)))) (hts _ (List.mem_cons_of_mem _ (lw_in 2934 (by decide +kernel) (by decide +kernel)))) ⟨by decide, by decide, by decide +kernel⟩ ⟨Nat.le_of_ble_eq_true rfl, Nat.le_of_ble_eq_true rfl⟩, hts _ (List.mem_cons_of_mem _ (lw_in 2935 (by decide +kernel) (by decide +kernel))), hts _ (List.mem_cons_of_mem _ (lw_in 2936 (by decide +kernel) (by decide +kernel)))⟩ ⟨lw_PX.blind, va_recv hK hP (ci := 3) (q0 := 0) rfl rfl, fun U hU hW => ⟨rfl, by rw [hU], by rw [hU]; exact hP, va_K.moved hW.alike hK, hE.go hW hU va_S.rf (fun _ h => h)⟩⟩ rfl rfl hl.1 rfl (lv_room (Nat.le_of_ble_eq_true rfl)) ld_L_count_4 ⟨Nat.le_of_ble_eq_true rfl, Nat.le_of_ble_eq_true rfl⟩) hS (fun q _ h => h) (fun q h => h) (fun q _ h => h) (fun E ce q9 u t H1 locs1 ht hvm _ hBE hz1 hk1 hS hce hcv hcl => ?_) (fun _ _ _ _ _ _ _ hw _ _ _ _ => hw.elim)
  obtain rfl : E = "java/lang/IndexOutOfBoundsException" := hBE
  refine vx_catch (own := "TableTongueLaw") (name := "java/lang/IndexOutOfBoundsException") hown [] ⟨0, 9, 12, 19⟩ [] (htab.trans rfl) (fun z hz => nomatch hz) (by decide) (by decide) (hts _ (List.mem_cons_of_mem _ (lw_in 2118 (by decide +kernel) (by decide +kernel)))) (va_Nw.use rfl (hE.2.2 _ (List.mem_of_getElem? (i := 2125) (by decide +kernel)) rfl)) hce hcv hcl ?_
  refine lv_astore_n (lv' := [(3, .ref q9), (0, .ref q0), (1, .int a1), (2, .ref o)]) hx hb ld_L_count_12 rfl hl (by decide) rfl (fun ls hl => ?_)
  refine lv_iconst (v := 1) hx hb ld_L_count_13 (by decide) ?_
  exact W.iret (v := 1) hx hb hr (fun t ht hW => ⟨⟨1, (), rfl, rfl, trivial⟩, hS.F ht⟩) hS.2.2 ld_L_count_14
set_option maxHeartbeats 4000000 in
set_option maxRecDepth 100000 in
theorem w_L_object_bad (l : Launch) (hst : l.stackTraces = false) (D : va_G) (q0 sz : Nat) (fs : List Value) (hf8 : fs[8]? = some (.int 0)) (hf9 : fs[9]? = some (.int 0)) (hf10 : fs[10]? = some (.int (-1))) (hf11 : fs[11]? = some (.int (-1))) (a1 : Int32) (a2 : Int32) (o : Nat)  : Met l ly_L_object (lw_wH ly_L_object method_12_code 5 (some .int) [(0, 10, 13, 19)]) ({ frames := 10, cells := 1, slots := 6, locals := 220 }) (lw_PX D q0 fs sz [.ref q0, .int a1, .int a2, .ref o]) (va_Qi (S := Unit) (fun r _ => r = 1) (fun _ _ => True) (fun q => sz ≤ q)) 1 6 (fun q => sz ≤ q) := by
  refine va_MetW (cc := method_12_code) (maxL := 5) (ret := (some .int)) (hh := [(0, 10, 13, 19)]) (by decide) rfl ?_
  intro p e s m args below meth c s₁ B hml hv
  obtain ⟨rfl, hsz, hP, hK, hE⟩ := hv
  subst hsz
  have hx := B.exec
  have hb := B.bytes
  have hr := B.returns
  have hts := atoms_spec (ws := lw_wH ly_L_object method_12_code 5 (some .int) [(0, 10, 13, 19)]) B.pre
  have hown : s.vm.findClass "TableTongueLaw" = some m.cls := findClass_of_methodNamed B.named
  have htab := vx_table (x := ly_L_object) B (hts _ List.mem_cons_self)
  have hS : va_S (fun q => s.heap.size ≤ q) s.heap s.heap [] := va_S.rf
  have hl := lv_entry ([.ref q0, .int a1, .int a2, .ref o]) (n := 5) (Nat.le_of_ble_eq_true rfl)
  rw [lg_entry_eq]
  generalize (lg_sl ([.ref q0, .int a1, .int a2, .ref o]) ++ List.replicate (5 - (lg_sl ([.ref q0, .int a1, .int a2, .ref o])).length) Slot.unset).toArray = ls at hl ⊢
  have hl : lv_has ls 5 [(0, .ref q0), (1, .int a1), (2, .int a2), (3, .ref o)] := hl
  refine lv_aload_n hx hb ld_L_object_0 rfl (lv_at hl 3 rfl) ?_
  refine lv_iconst (v := 0) hx hb ld_L_object_1 (by decide) ?_
  refine lv_aload_n hx hb ld_L_object_2 rfl (lv_at hl 0 rfl) ?_
  refine lv_iload_n hx hb ld_L_object_3 rfl (lv_at hl 1 rfl) ?_
  refine lv_iload_n hx hb ld_L_object_4 rfl (lv_at hl 2 rfl) ?_
  refine vx_calli (vx_runV (As := [.int a1, .int a2]) (rest := [.int 0, .ref o]) (C := "TableTongue") (Ts := lw_wH ly_L_object method_12_code 5 (some .int) [(0, 10, 13, 19)]) ⟨hx, hb, hml, hown, hts⟩ (t_X11_object l hst D q0 s.heap.size fs hf8 hf9 hf10 hf11 a1 a2) ⟨callB_of 2 hts (lw_GoodInH (List.mem_cons_of_mem _ (lw_in 2944 (by decide +kernel) (by decide +kernel))) (by decide +kernel)) rfl rfl rfl (hts _ (List.mem_cons_of_mem _ (lw_in 394 (by decide +kernel) (by decide +kernel)))) (hts _ (List.mem_cons_of_mem _ (lw_in 2941 (by decide +kernel) (by decide +kernel)))) ⟨by decide, by decide, by decide +kernel⟩ ⟨Nat.le_of_ble_eq_true rfl, Nat.le_of_ble_eq_true rfl⟩, hts _ (List.mem_cons_of_mem _ (lw_in 2942 (by decide +kernel) (by decide +kernel))), hts _ (List.mem_cons_of_mem _ (lw_in 2943 (by decide +kernel) (by decide +kernel)))⟩ ⟨lw_PX.blind, va_recv hK hP (ci := 3) (q0 := 0) rfl rfl, fun U hU hW => ⟨rfl, by rw [hU], by rw [hU]; exact hP, va_K.moved hW.alike hK, hE.go hW hU va_S.rf (fun _ h => h)⟩⟩ rfl rfl hl.1 rfl (lv_room (Nat.le_of_ble_eq_true rfl)) ld_L_object_5 ⟨Nat.le_of_ble_eq_true rfl, Nat.le_of_ble_eq_true rfl⟩) hS (fun q _ h => h) (fun q h => h) (fun q _ h => h) (fun E ce q9 u t H1 locs1 ht hvm _ hBE hz1 hk1 hS hce hcv hcl => ?_) (fun _ _ _ _ _ _ _ hw _ _ _ _ => hw.elim)
  obtain rfl : E = "java/lang/IndexOutOfBoundsException" := hBE
  refine vx_catch (own := "TableTongueLaw") (name := "java/lang/IndexOutOfBoundsException") hown [] ⟨0, 10, 13, 19⟩ [] (htab.trans rfl) (fun z hz => nomatch hz) (by decide) (by decide) (hts _ (List.mem_cons_of_mem _ (lw_in 2118 (by decide +kernel) (by decide +kernel)))) (va_Nw.use rfl (hE.2.2 _ (List.mem_of_getElem? (i := 2125) (by decide +kernel)) rfl)) hce hcv hcl ?_
  refine lv_astore (lv' := [(4, .ref q9), (0, .ref q0), (1, .int a1), (2, .int a2), (3, .ref o)]) hx hb ld_L_object_13 hl (by decide) rfl (fun ls hl => ?_)
  refine lv_iconst (v := 1) hx hb ld_L_object_15 (by decide) ?_
  exact W.iret (v := 1) hx hb hr (fun t ht hW => ⟨⟨1, (), rfl, rfl, trivial⟩, hS.F ht⟩) hS.2.2 ld_L_object_16
set_option maxHeartbeats 4000000 in
set_option maxRecDepth 100000 in
theorem w_L_place_bad (l : Launch) (hst : l.stackTraces = false) (D : va_G) (q0 sz : Nat) (fs : List Value) (hf8 : fs[8]? = some (.int 0)) (hf9 : fs[9]? = some (.int 0)) (hf10 : fs[10]? = some (.int (-1))) (hf11 : fs[11]? = some (.int (-1))) (a1 : Int32) (a2 : Int32) (a3 : Int32) (o : Nat)  : Met l ly_L_place (lw_wH ly_L_place method_13_code 6 (some .int) [(0, 11, 14, 19)]) ({ frames := 10, cells := 1, slots := 6, locals := 220 }) (lw_PX D q0 fs sz [.ref q0, .int a1, .int a2, .int a3, .ref o]) (va_Qi (S := Unit) (fun r _ => r = 1) (fun _ _ => True) (fun q => sz ≤ q)) 1 6 (fun q => sz ≤ q) := by
  refine va_MetW (cc := method_13_code) (maxL := 6) (ret := (some .int)) (hh := [(0, 11, 14, 19)]) (by decide) rfl ?_
  intro p e s m args below meth c s₁ B hml hv
  obtain ⟨rfl, hsz, hP, hK, hE⟩ := hv
  subst hsz
  have hx := B.exec
  have hb := B.bytes
  have hr := B.returns
  have hts := atoms_spec (ws := lw_wH ly_L_place method_13_code 6 (some .int) [(0, 11, 14, 19)]) B.pre
  have hown : s.vm.findClass "TableTongueLaw" = some m.cls := findClass_of_methodNamed B.named
  have htab := vx_table (x := ly_L_place) B (hts _ List.mem_cons_self)
  have hS : va_S (fun q => s.heap.size ≤ q) s.heap s.heap [] := va_S.rf
  have hl := lv_entry ([.ref q0, .int a1, .int a2, .int a3, .ref o]) (n := 6) (Nat.le_of_ble_eq_true rfl)
  rw [lg_entry_eq]
  generalize (lg_sl ([.ref q0, .int a1, .int a2, .int a3, .ref o]) ++ List.replicate (6 - (lg_sl ([.ref q0, .int a1, .int a2, .int a3, .ref o])).length) Slot.unset).toArray = ls at hl ⊢
  have hl : lv_has ls 6 [(0, .ref q0), (1, .int a1), (2, .int a2), (3, .int a3), (4, .ref o)] := hl
  refine lv_aload hx hb ld_L_place_0 (lv_at hl 4 rfl) ?_
  refine lv_iconst (v := 0) hx hb ld_L_place_2 (by decide) ?_
  refine lv_aload_n hx hb ld_L_place_3 rfl (lv_at hl 0 rfl) ?_
  refine lv_iload_n hx hb ld_L_place_4 rfl (lv_at hl 1 rfl) ?_
  refine lv_iload_n hx hb ld_L_place_5 rfl (lv_at hl 2 rfl) ?_
  refine lv_iload_n hx hb ld_L_place_6 rfl (lv_at hl 3 rfl) ?_
  refine vx_calll (vx_runV (As := [.int a1, .int a2, .int a3]) (rest := [.int 0, .ref o]) (C := "TableTongue") (Ts := lw_wH ly_L_place method_13_code 6 (some .int) [(0, 11, 14, 19)]) ⟨hx, hb, hml, hown, hts⟩ (t_X11_place l hst D q0 s.heap.size fs hf8 hf9 hf10 hf11 a1 a2 a3) ⟨callB_of 3 hts (lw_GoodInH (List.mem_cons_of_mem _ (lw_in 2952 (by decide +kernel) (by decide +kernel))) (by decide +kernel)) rfl rfl rfl (hts _ (List.mem_cons_of_mem _ (lw_in 394 (by decide +kernel) (by decide +kernel)))) (hts _ (List.mem_cons_of_mem _ (lw_in 2949 (by decide +kernel) (by decide +kernel)))) ⟨by decide, by decide, by decide +kernel⟩ ⟨Nat.le_of_ble_eq_true rfl, Nat.le_of_ble_eq_true rfl⟩, hts _ (List.mem_cons_of_mem _ (lw_in 2950 (by decide +kernel) (by decide +kernel))), hts _ (List.mem_cons_of_mem _ (lw_in 2951 (by decide +kernel) (by decide +kernel)))⟩ ⟨lw_PX.blind, va_recv hK hP (ci := 3) (q0 := 0) rfl rfl, fun U hU hW => ⟨rfl, by rw [hU], by rw [hU]; exact hP, va_K.moved hW.alike hK, hE.go hW hU va_S.rf (fun _ h => h)⟩⟩ rfl rfl hl.1 rfl (lv_room (Nat.le_of_ble_eq_true rfl)) ld_L_place_7 ⟨Nat.le_of_ble_eq_true rfl, Nat.le_of_ble_eq_true rfl⟩) hS (fun q _ h => h) (fun q h => h) (fun q _ h => h) (fun E ce q9 u t H1 locs1 ht hvm _ hBE hz1 hk1 hS hce hcv hcl => ?_) (fun _ _ _ _ _ _ _ hw _ _ _ _ => hw.elim)
  obtain rfl : E = "java/lang/IndexOutOfBoundsException" := hBE
  refine vx_catch (own := "TableTongueLaw") (name := "java/lang/IndexOutOfBoundsException") hown [] ⟨0, 11, 14, 19⟩ [] (htab.trans rfl) (fun z hz => nomatch hz) (by decide) (by decide) (hts _ (List.mem_cons_of_mem _ (lw_in 2118 (by decide +kernel) (by decide +kernel)))) (va_Nw.use rfl (hE.2.2 _ (List.mem_of_getElem? (i := 2125) (by decide +kernel)) rfl)) hce hcv hcl ?_
  refine lv_astore (lv' := [(5, .ref q9), (0, .ref q0), (1, .int a1), (2, .int a2), (3, .int a3), (4, .ref o)]) hx hb ld_L_place_14 hl (by decide) rfl (fun ls hl => ?_)
  refine lv_iconst (v := 1) hx hb ld_L_place_16 (by decide) ?_
  exact W.iret (v := 1) hx hb hr (fun t ht hW => ⟨⟨1, (), rfl, rfl, trivial⟩, hS.F ht⟩) hS.2.2 ld_L_place_17
