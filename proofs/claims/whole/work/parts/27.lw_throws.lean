/-! ===== 27: the class's face on a fresh object: what throws (by wip/p1/walk.py) ===== -/
theorem lw_good3 {own X : String} {ik : Nat} {L : List Jvm.Cond} (h : ∀ w ∈ L, goodWord w = true ∨ lw_isC w = true) : ∀ w ∈ Jvm.Cond.classLink own ik X :: Jvm.Cond.initialized X :: L, vx_ot w = true := fun w hw => by
  rcases List.mem_cons.mp hw with rfl | hw
  · rfl
  · rcases List.mem_cons.mp hw with rfl | hw
    · rfl
    · exact lw_ot (h w hw)
def ly_X11_function : MethodName := ⟨"TableTongue", "function", "(II)I"⟩
def ly_X11_load : MethodName := ⟨"TableTongue", "load", "()V"⟩
def ly_X11_run : MethodName := ⟨"TableTongue", "run", "(I)I"⟩
def ly_X11_output : MethodName := ⟨"TableTongue", "output", "(I)I"⟩
def ly_X11_object : MethodName := ⟨"TableTongue", "object", "(II)I"⟩
def ly_X11_place : MethodName := ⟨"TableTongue", "place", "(III)J"⟩
def ly_X11_fault : MethodName := ⟨"TableTongue", "fault", "(I)I"⟩
def ly_X11_count : MethodName := ⟨"TableTongue", "count", "(I)I"⟩
def ly_X11_feed : MethodName := ⟨"TableTongue", "feed", "(IJ)I"⟩
theorem ld_X11_function_0 : decode prog_1_method_6_code 0 = .ok (.aload_n 0, 1) := by decide +kernel
theorem ld_X11_function_1 : decode prog_1_method_6_code 1 = .ok (.getfield 99, 3) := by decide +kernel
theorem ld_X11_function_4 : decode prog_1_method_6_code 4 = .ok (.ifCond .eq 27, 3) := by decide +kernel
theorem ld_X11_function_31 : decode prog_1_method_6_code 31 = .ok (.new 109, 3) := by decide +kernel
theorem ld_X11_function_34 : decode prog_1_method_6_code 34 = .ok (.dup, 1) := by decide +kernel
theorem ld_X11_function_35 : decode prog_1_method_6_code 35 = .ok (.invokespecial 111, 3) := by decide +kernel
theorem ld_X11_function_38 : decode prog_1_method_6_code 38 = .ok (.athrow, 1) := by decide +kernel
theorem ld_X11_load_0 : decode prog_1_method_7_code 0 = .ok (.aload_n 0, 1) := by decide +kernel
theorem ld_X11_load_1 : decode prog_1_method_7_code 1 = .ok (.getfield 99, 3) := by decide +kernel
theorem ld_X11_load_4 : decode prog_1_method_7_code 4 = .ok (.ifCond .ne 11, 3) := by decide +kernel
theorem ld_X11_load_7 : decode prog_1_method_7_code 7 = .ok (.new 126, 3) := by decide +kernel
theorem ld_X11_load_10 : decode prog_1_method_7_code 10 = .ok (.dup, 1) := by decide +kernel
theorem ld_X11_load_11 : decode prog_1_method_7_code 11 = .ok (.invokespecial 128, 3) := by decide +kernel
theorem ld_X11_load_14 : decode prog_1_method_7_code 14 = .ok (.athrow, 1) := by decide +kernel
theorem ld_X11_run_0 : decode prog_1_method_8_code 0 = .ok (.aload_n 0, 1) := by decide +kernel
theorem ld_X11_run_1 : decode prog_1_method_8_code 1 = .ok (.getfield 99, 3) := by decide +kernel
theorem ld_X11_run_4 : decode prog_1_method_8_code 4 = .ok (.ifCond .ne 11, 3) := by decide +kernel
theorem ld_X11_run_7 : decode prog_1_method_8_code 7 = .ok (.new 126, 3) := by decide +kernel
theorem ld_X11_run_10 : decode prog_1_method_8_code 10 = .ok (.dup, 1) := by decide +kernel
theorem ld_X11_run_11 : decode prog_1_method_8_code 11 = .ok (.invokespecial 128, 3) := by decide +kernel
theorem ld_X11_run_14 : decode prog_1_method_8_code 14 = .ok (.athrow, 1) := by decide +kernel
theorem ld_X11_output_0 : decode prog_1_method_14_code 0 = .ok (.aload_n 0, 1) := by decide +kernel
theorem ld_X11_output_1 : decode prog_1_method_14_code 1 = .ok (.getfield 99, 3) := by decide +kernel
theorem ld_X11_output_4 : decode prog_1_method_14_code 4 = .ok (.ifCond .eq 29, 3) := by decide +kernel
theorem ld_X11_output_33 : decode prog_1_method_14_code 33 = .ok (.new 109, 3) := by decide +kernel
theorem ld_X11_output_36 : decode prog_1_method_14_code 36 = .ok (.dup, 1) := by decide +kernel
theorem ld_X11_output_37 : decode prog_1_method_14_code 37 = .ok (.invokespecial 111, 3) := by decide +kernel
theorem ld_X11_output_40 : decode prog_1_method_14_code 40 = .ok (.athrow, 1) := by decide +kernel
theorem ld_X11_object_0 : decode prog_1_method_16_code 0 = .ok (.aload_n 0, 1) := by decide +kernel
theorem ld_X11_object_1 : decode prog_1_method_16_code 1 = .ok (.getfield 99, 3) := by decide +kernel
theorem ld_X11_object_4 : decode prog_1_method_16_code 4 = .ok (.ifCond .eq 28, 3) := by decide +kernel
theorem ld_X11_object_32 : decode prog_1_method_16_code 32 = .ok (.new 109, 3) := by decide +kernel
theorem ld_X11_object_35 : decode prog_1_method_16_code 35 = .ok (.dup, 1) := by decide +kernel
theorem ld_X11_object_36 : decode prog_1_method_16_code 36 = .ok (.invokespecial 111, 3) := by decide +kernel
theorem ld_X11_object_39 : decode prog_1_method_16_code 39 = .ok (.athrow, 1) := by decide +kernel
theorem ld_X11_place_0 : decode prog_1_method_17_code 0 = .ok (.aload_n 0, 1) := by decide +kernel
theorem ld_X11_place_1 : decode prog_1_method_17_code 1 = .ok (.getfield 99, 3) := by decide +kernel
theorem ld_X11_place_4 : decode prog_1_method_17_code 4 = .ok (.ifCond .eq 36, 3) := by decide +kernel
theorem ld_X11_place_40 : decode prog_1_method_17_code 40 = .ok (.new 109, 3) := by decide +kernel
theorem ld_X11_place_43 : decode prog_1_method_17_code 43 = .ok (.dup, 1) := by decide +kernel
theorem ld_X11_place_44 : decode prog_1_method_17_code 44 = .ok (.invokespecial 111, 3) := by decide +kernel
theorem ld_X11_place_47 : decode prog_1_method_17_code 47 = .ok (.athrow, 1) := by decide +kernel
theorem ld_X11_fault_0 : decode prog_1_method_5_code 0 = .ok (.iload_n 1, 1) := by decide +kernel
theorem ld_X11_fault_1 : decode prog_1_method_5_code 1 = .ok (.ifCond .lt 8, 3) := by decide +kernel
theorem ld_X11_fault_9 : decode prog_1_method_5_code 9 = .ok (.new 109, 3) := by decide +kernel
theorem ld_X11_fault_12 : decode prog_1_method_5_code 12 = .ok (.dup, 1) := by decide +kernel
theorem ld_X11_fault_13 : decode prog_1_method_5_code 13 = .ok (.invokespecial 111, 3) := by decide +kernel
theorem ld_X11_fault_16 : decode prog_1_method_5_code 16 = .ok (.athrow, 1) := by decide +kernel
theorem ld_X11_fault_4 : decode prog_1_method_5_code 4 = .ok (.iload_n 1, 1) := by decide +kernel
theorem ld_X11_fault_5 : decode prog_1_method_5_code 5 = .ok (.iconst 1, 1) := by decide +kernel
theorem ld_X11_fault_6 : decode prog_1_method_5_code 6 = .ok (.if_icmp .le 11, 3) := by decide +kernel
theorem ld_X11_count_0 : decode prog_1_method_15_code 0 = .ok (.iload_n 1, 1) := by decide +kernel
theorem ld_X11_count_1 : decode prog_1_method_15_code 1 = .ok (.ifCond .lt 8, 3) := by decide +kernel
theorem ld_X11_count_9 : decode prog_1_method_15_code 9 = .ok (.new 109, 3) := by decide +kernel
theorem ld_X11_count_12 : decode prog_1_method_15_code 12 = .ok (.dup, 1) := by decide +kernel
theorem ld_X11_count_13 : decode prog_1_method_15_code 13 = .ok (.invokespecial 111, 3) := by decide +kernel
theorem ld_X11_count_16 : decode prog_1_method_15_code 16 = .ok (.athrow, 1) := by decide +kernel
theorem ld_X11_count_4 : decode prog_1_method_15_code 4 = .ok (.iload_n 1, 1) := by decide +kernel
theorem ld_X11_count_5 : decode prog_1_method_15_code 5 = .ok (.iconst 5, 1) := by decide +kernel
theorem ld_X11_count_6 : decode prog_1_method_15_code 6 = .ok (.if_icmp .le 11, 3) := by decide +kernel
theorem ld_X11_feed_0 : decode prog_1_method_2_code 0 = .ok (.iload_n 1, 1) := by decide +kernel
theorem ld_X11_feed_1 : decode prog_1_method_2_code 1 = .ok (.iconst 1, 1) := by decide +kernel
theorem ld_X11_feed_2 : decode prog_1_method_2_code 2 = .ok (.if_icmp .lt 21, 3) := by decide +kernel
theorem ld_X11_feed_23 : decode prog_1_method_2_code 23 = .ok (.new 83, 3) := by decide +kernel
theorem ld_X11_feed_26 : decode prog_1_method_2_code 26 = .ok (.dup, 1) := by decide +kernel
theorem ld_X11_feed_27 : decode prog_1_method_2_code 27 = .ok (.invokespecial 85, 3) := by decide +kernel
theorem ld_X11_feed_30 : decode prog_1_method_2_code 30 = .ok (.athrow, 1) := by decide +kernel
theorem ld_X11_feed_5 : decode prog_1_method_2_code 5 = .ok (.iload_n 1, 1) := by decide +kernel
theorem ld_X11_feed_6 : decode prog_1_method_2_code 6 = .ok (.bipush 8, 2) := by decide +kernel
theorem ld_X11_feed_8 : decode prog_1_method_2_code 8 = .ok (.if_icmp .gt 15, 3) := by decide +kernel
set_option maxHeartbeats 4000000 in
set_option maxRecDepth 100000 in
theorem t_X11_function (l : Launch) (hst : l.stackTraces = false) (D : va_G) (q0 sz : Nat) (fs : List Value) (hf8 : fs[8]? = some (.int 0)) (hf9 : fs[9]? = some (.int 0)) (hf10 : fs[10]? = some (.int (-1))) (hf11 : fs[11]? = some (.int (-1))) (a1 : Int32) (a2 : Int32)  : vx_Met l ly_X11_function (lw_w ly_X11_function prog_1_method_6_code 3 (some .int)) ({ frames := 8, cells := 1, slots := 6, locals := 150 }) (lw_PX D q0 fs sz [.ref q0, .int a1, .int a2]) (va_Qi (S := Unit) (fun _ _ => False) (fun _ _ => True) (fun q => sz ≤ q)) (lw_XX "java/lang/IndexOutOfBoundsException" sz) 1 6 (fun q => sz ≤ q) := by
  refine vx_ofW (cc := prog_1_method_6_code) (maxL := 3) (ret := (some .int)) (by decide) rfl ?_
  intro p e s m args below meth c s₁ B hml htab hv
  obtain ⟨rfl, hsz, hP, hK, hE⟩ := hv
  subst hsz
  have hx := B.exec
  have hb := B.bytes
  have hr := B.returns
  have hts := atoms_spec (ws := lw_w ly_X11_function prog_1_method_6_code 3 (some .int)) B.pre
  have hin : ∀ w ∈ u_ws "TableTongue" al_TX11 12, w ∈ lw_w ly_X11_function prog_1_method_6_code 3 (some .int) := fun w hw => List.mem_cons_of_mem _ (lw_u (ci := 3) rfl w hw)
  have hown : s.vm.findClass "TableTongue" = some m.cls := findClass_of_methodNamed B.named
  have hlocks := B.notSynchronized
  have hS : va_S (fun q => s.heap.size ≤ q) s.heap s.heap [] := va_S.rf
  have hl := lv_entry ([.ref q0, .int a1, .int a2]) (n := 3) (Nat.le_of_ble_eq_true rfl)
  rw [lg_entry_eq]
  generalize (lg_sl ([.ref q0, .int a1, .int a2]) ++ List.replicate (3 - (lg_sl ([.ref q0, .int a1, .int a2])).length) Slot.unset).toArray = ls at hl ⊢
  have hl : lv_has ls 3 [(0, .ref q0), (1, .int a1), (2, .int a2)] := hl
  refine lv_aload_n hx hb ld_X11_function_0 rfl (lv_at hl 0 rfl) ?_
  refine va_get (D := D) (ci := 3) (v := .int 0) (C := "TableTongue") (T := al_TX11) (N := 12) hx hb hts hin hown hK hP 0 rfl rfl 9 (by decide) (hts (.fieldLink "TableTongue" 99 "TableTongue" "compiled" "Z") (List.mem_cons_of_mem _ (lw_in 1586 (by decide +kernel) (by decide +kernel)))) (fun _ h9 => h9) hf9 ld_X11_function_1 ?_
  refine lv_if_eq (tgt := 31) hx hb ld_X11_function_4 (by decide) (fun _ => ?_) (fun z => absurd z (by decide))
  exact vx_throw0 (own := "TableTongue") (cls := "java/lang/IndexOutOfBoundsException") (names := lw_sup) (ik := 109) (ic := 111) (A := fun q => s.heap.size ≤ q) hx hb hst hown (by decide +kernel) (by decide +kernel) (hts _ (List.mem_cons_of_mem _ (lw_in 2123 (by decide +kernel) (by decide +kernel)))) (hts _ (List.mem_cons_of_mem _ (lw_in 424 (by decide +kernel) (by decide +kernel)))) (lw_hat hts (fun w hw => List.mem_cons_of_mem _ hw) hE lw_at111 lw_ag111) (lw_good3 lw_ag111) hE.1 hE.2.1 hS (hl.1.trans hml.symm) ld_X11_function_31 ld_X11_function_34 ld_X11_function_35 ld_X11_function_38 (fun x hx9 => (htab x hx9).elim) (Nat.le_of_ble_eq_true rfl) (Nat.le_of_ble_eq_true rfl) (Nat.le_of_ble_eq_true rfl) (Nat.le_of_ble_eq_true rfl) hlocks (fun t _ h1 h2 => ⟨(), trivial, rfl, Nat.le_trans hS.1 h1, fun q hq hn => (h2 q (Nat.lt_of_lt_of_le hq hS.1)).trans (hS.2.1 q hq hn)⟩) (fun z h9 => hS.2.2 z h9) (Nat.le_of_ble_eq_true rfl) (Nat.le_of_ble_eq_true rfl)
set_option maxHeartbeats 4000000 in
set_option maxRecDepth 100000 in
theorem t_X11_load (l : Launch) (hst : l.stackTraces = false) (D : va_G) (q0 sz : Nat) (fs : List Value) (hf8 : fs[8]? = some (.int 0)) (hf9 : fs[9]? = some (.int 0)) (hf10 : fs[10]? = some (.int (-1))) (hf11 : fs[11]? = some (.int (-1)))   : vx_Met l ly_X11_load (lw_w ly_X11_load prog_1_method_7_code 1 none) ({ frames := 8, cells := 1, slots := 6, locals := 150 }) (lw_PX D q0 fs sz [.ref q0]) (va_Qv (S := Unit) (fun _ => False) (fun _ _ => True) (fun q => sz ≤ q)) (lw_XX "java/lang/IllegalStateException" sz) 1 6 (fun q => sz ≤ q) := by
  refine vx_ofW (cc := prog_1_method_7_code) (maxL := 1) (ret := none) (by decide) rfl ?_
  intro p e s m args below meth c s₁ B hml htab hv
  obtain ⟨rfl, hsz, hP, hK, hE⟩ := hv
  subst hsz
  have hx := B.exec
  have hb := B.bytes
  have hr := B.returns
  have hts := atoms_spec (ws := lw_w ly_X11_load prog_1_method_7_code 1 none) B.pre
  have hin : ∀ w ∈ u_ws "TableTongue" al_TX11 12, w ∈ lw_w ly_X11_load prog_1_method_7_code 1 none := fun w hw => List.mem_cons_of_mem _ (lw_u (ci := 3) rfl w hw)
  have hown : s.vm.findClass "TableTongue" = some m.cls := findClass_of_methodNamed B.named
  have hlocks := B.notSynchronized
  have hS : va_S (fun q => s.heap.size ≤ q) s.heap s.heap [] := va_S.rf
  have hl := lv_entry ([.ref q0]) (n := 1) (Nat.le_of_ble_eq_true rfl)
  rw [lg_entry_eq]
  generalize (lg_sl ([.ref q0]) ++ List.replicate (1 - (lg_sl ([.ref q0])).length) Slot.unset).toArray = ls at hl ⊢
  have hl : lv_has ls 1 [(0, .ref q0)] := hl
  refine lv_aload_n hx hb ld_X11_load_0 rfl (lv_at hl 0 rfl) ?_
  refine va_get (D := D) (ci := 3) (v := .int 0) (C := "TableTongue") (T := al_TX11) (N := 12) hx hb hts hin hown hK hP 0 rfl rfl 9 (by decide) (hts (.fieldLink "TableTongue" 99 "TableTongue" "compiled" "Z") (List.mem_cons_of_mem _ (lw_in 1586 (by decide +kernel) (by decide +kernel)))) (fun _ h9 => h9) hf9 ld_X11_load_1 ?_
  refine lv_if_ne (tgt := 15) hx hb ld_X11_load_4 (by decide) (fun z => absurd z (by decide)) (fun _ => ?_)
  exact vx_throw0 (own := "TableTongue") (cls := "java/lang/IllegalStateException") (names := lw_sup) (ik := 126) (ic := 128) (A := fun q => s.heap.size ≤ q) hx hb hst hown (by decide +kernel) (by decide +kernel) (hts _ (List.mem_cons_of_mem _ (lw_in 2153 (by decide +kernel) (by decide +kernel)))) (hts _ (List.mem_cons_of_mem _ (lw_in 425 (by decide +kernel) (by decide +kernel)))) (lw_hat hts (fun w hw => List.mem_cons_of_mem _ hw) hE lw_at128 lw_ag128) (lw_good3 lw_ag128) hE.1 hE.2.1 hS (hl.1.trans hml.symm) ld_X11_load_7 ld_X11_load_10 ld_X11_load_11 ld_X11_load_14 (fun x hx9 => (htab x hx9).elim) (Nat.le_of_ble_eq_true rfl) (Nat.le_of_ble_eq_true rfl) (Nat.le_of_ble_eq_true rfl) (Nat.le_of_ble_eq_true rfl) hlocks (fun t _ h1 h2 => ⟨(), trivial, rfl, Nat.le_trans hS.1 h1, fun q hq hn => (h2 q (Nat.lt_of_lt_of_le hq hS.1)).trans (hS.2.1 q hq hn)⟩) (fun z h9 => hS.2.2 z h9) (Nat.le_of_ble_eq_true rfl) (Nat.le_of_ble_eq_true rfl)
set_option maxHeartbeats 4000000 in
set_option maxRecDepth 100000 in
theorem t_X11_run (l : Launch) (hst : l.stackTraces = false) (D : va_G) (q0 sz : Nat) (fs : List Value) (hf8 : fs[8]? = some (.int 0)) (hf9 : fs[9]? = some (.int 0)) (hf10 : fs[10]? = some (.int (-1))) (hf11 : fs[11]? = some (.int (-1))) (a1 : Int32)  : vx_Met l ly_X11_run (lw_w ly_X11_run prog_1_method_8_code 2 (some .int)) ({ frames := 8, cells := 1, slots := 6, locals := 150 }) (lw_PX D q0 fs sz [.ref q0, .int a1]) (va_Qi (S := Unit) (fun _ _ => False) (fun _ _ => True) (fun q => sz ≤ q)) (lw_XX "java/lang/IllegalStateException" sz) 1 6 (fun q => sz ≤ q) := by
  refine vx_ofW (cc := prog_1_method_8_code) (maxL := 2) (ret := (some .int)) (by decide) rfl ?_
  intro p e s m args below meth c s₁ B hml htab hv
  obtain ⟨rfl, hsz, hP, hK, hE⟩ := hv
  subst hsz
  have hx := B.exec
  have hb := B.bytes
  have hr := B.returns
  have hts := atoms_spec (ws := lw_w ly_X11_run prog_1_method_8_code 2 (some .int)) B.pre
  have hin : ∀ w ∈ u_ws "TableTongue" al_TX11 12, w ∈ lw_w ly_X11_run prog_1_method_8_code 2 (some .int) := fun w hw => List.mem_cons_of_mem _ (lw_u (ci := 3) rfl w hw)
  have hown : s.vm.findClass "TableTongue" = some m.cls := findClass_of_methodNamed B.named
  have hlocks := B.notSynchronized
  have hS : va_S (fun q => s.heap.size ≤ q) s.heap s.heap [] := va_S.rf
  have hl := lv_entry ([.ref q0, .int a1]) (n := 2) (Nat.le_of_ble_eq_true rfl)
  rw [lg_entry_eq]
  generalize (lg_sl ([.ref q0, .int a1]) ++ List.replicate (2 - (lg_sl ([.ref q0, .int a1])).length) Slot.unset).toArray = ls at hl ⊢
  have hl : lv_has ls 2 [(0, .ref q0), (1, .int a1)] := hl
  refine lv_aload_n hx hb ld_X11_run_0 rfl (lv_at hl 0 rfl) ?_
  refine va_get (D := D) (ci := 3) (v := .int 0) (C := "TableTongue") (T := al_TX11) (N := 12) hx hb hts hin hown hK hP 0 rfl rfl 9 (by decide) (hts (.fieldLink "TableTongue" 99 "TableTongue" "compiled" "Z") (List.mem_cons_of_mem _ (lw_in 1586 (by decide +kernel) (by decide +kernel)))) (fun _ h9 => h9) hf9 ld_X11_run_1 ?_
  refine lv_if_ne (tgt := 15) hx hb ld_X11_run_4 (by decide) (fun z => absurd z (by decide)) (fun _ => ?_)
  exact vx_throw0 (own := "TableTongue") (cls := "java/lang/IllegalStateException") (names := lw_sup) (ik := 126) (ic := 128) (A := fun q => s.heap.size ≤ q) hx hb hst hown (by decide +kernel) (by decide +kernel) (hts _ (List.mem_cons_of_mem _ (lw_in 2153 (by decide +kernel) (by decide +kernel)))) (hts _ (List.mem_cons_of_mem _ (lw_in 425 (by decide +kernel) (by decide +kernel)))) (lw_hat hts (fun w hw => List.mem_cons_of_mem _ hw) hE lw_at128 lw_ag128) (lw_good3 lw_ag128) hE.1 hE.2.1 hS (hl.1.trans hml.symm) ld_X11_run_7 ld_X11_run_10 ld_X11_run_11 ld_X11_run_14 (fun x hx9 => (htab x hx9).elim) (Nat.le_of_ble_eq_true rfl) (Nat.le_of_ble_eq_true rfl) (Nat.le_of_ble_eq_true rfl) (Nat.le_of_ble_eq_true rfl) hlocks (fun t _ h1 h2 => ⟨(), trivial, rfl, Nat.le_trans hS.1 h1, fun q hq hn => (h2 q (Nat.lt_of_lt_of_le hq hS.1)).trans (hS.2.1 q hq hn)⟩) (fun z h9 => hS.2.2 z h9) (Nat.le_of_ble_eq_true rfl) (Nat.le_of_ble_eq_true rfl)
set_option maxHeartbeats 4000000 in
set_option maxRecDepth 100000 in
theorem t_X11_output (l : Launch) (hst : l.stackTraces = false) (D : va_G) (q0 sz : Nat) (fs : List Value) (hf8 : fs[8]? = some (.int 0)) (hf9 : fs[9]? = some (.int 0)) (hf10 : fs[10]? = some (.int (-1))) (hf11 : fs[11]? = some (.int (-1))) (a1 : Int32)  : vx_Met l ly_X11_output (lw_w ly_X11_output prog_1_method_14_code 2 (some .int)) ({ frames := 8, cells := 1, slots := 6, locals := 150 }) (lw_PX D q0 fs sz [.ref q0, .int a1]) (va_Qi (S := Unit) (fun _ _ => False) (fun _ _ => True) (fun q => sz ≤ q)) (lw_XX "java/lang/IndexOutOfBoundsException" sz) 1 6 (fun q => sz ≤ q) := by
  refine vx_ofW (cc := prog_1_method_14_code) (maxL := 2) (ret := (some .int)) (by decide) rfl ?_
  intro p e s m args below meth c s₁ B hml htab hv
  obtain ⟨rfl, hsz, hP, hK, hE⟩ := hv
  subst hsz
  have hx := B.exec
  have hb := B.bytes
  have hr := B.returns
  have hts := atoms_spec (ws := lw_w ly_X11_output prog_1_method_14_code 2 (some .int)) B.pre
  have hin : ∀ w ∈ u_ws "TableTongue" al_TX11 12, w ∈ lw_w ly_X11_output prog_1_method_14_code 2 (some .int) := fun w hw => List.mem_cons_of_mem _ (lw_u (ci := 3) rfl w hw)
  have hown : s.vm.findClass "TableTongue" = some m.cls := findClass_of_methodNamed B.named
  have hlocks := B.notSynchronized
  have hS : va_S (fun q => s.heap.size ≤ q) s.heap s.heap [] := va_S.rf
  have hl := lv_entry ([.ref q0, .int a1]) (n := 2) (Nat.le_of_ble_eq_true rfl)
  rw [lg_entry_eq]
  generalize (lg_sl ([.ref q0, .int a1]) ++ List.replicate (2 - (lg_sl ([.ref q0, .int a1])).length) Slot.unset).toArray = ls at hl ⊢
  have hl : lv_has ls 2 [(0, .ref q0), (1, .int a1)] := hl
  refine lv_aload_n hx hb ld_X11_output_0 rfl (lv_at hl 0 rfl) ?_
  refine va_get (D := D) (ci := 3) (v := .int 0) (C := "TableTongue") (T := al_TX11) (N := 12) hx hb hts hin hown hK hP 0 rfl rfl 9 (by decide) (hts (.fieldLink "TableTongue" 99 "TableTongue" "compiled" "Z") (List.mem_cons_of_mem _ (lw_in 1586 (by decide +kernel) (by decide +kernel)))) (fun _ h9 => h9) hf9 ld_X11_output_1 ?_
  refine lv_if_eq (tgt := 33) hx hb ld_X11_output_4 (by decide) (fun _ => ?_) (fun z => absurd z (by decide))
  exact vx_throw0 (own := "TableTongue") (cls := "java/lang/IndexOutOfBoundsException") (names := lw_sup) (ik := 109) (ic := 111) (A := fun q => s.heap.size ≤ q) hx hb hst hown (by decide +kernel) (by decide +kernel) (hts _ (List.mem_cons_of_mem _ (lw_in 2123 (by decide +kernel) (by decide +kernel)))) (hts _ (List.mem_cons_of_mem _ (lw_in 424 (by decide +kernel) (by decide +kernel)))) (lw_hat hts (fun w hw => List.mem_cons_of_mem _ hw) hE lw_at111 lw_ag111) (lw_good3 lw_ag111) hE.1 hE.2.1 hS (hl.1.trans hml.symm) ld_X11_output_33 ld_X11_output_36 ld_X11_output_37 ld_X11_output_40 (fun x hx9 => (htab x hx9).elim) (Nat.le_of_ble_eq_true rfl) (Nat.le_of_ble_eq_true rfl) (Nat.le_of_ble_eq_true rfl) (Nat.le_of_ble_eq_true rfl) hlocks (fun t _ h1 h2 => ⟨(), trivial, rfl, Nat.le_trans hS.1 h1, fun q hq hn => (h2 q (Nat.lt_of_lt_of_le hq hS.1)).trans (hS.2.1 q hq hn)⟩) (fun z h9 => hS.2.2 z h9) (Nat.le_of_ble_eq_true rfl) (Nat.le_of_ble_eq_true rfl)
set_option maxHeartbeats 4000000 in
set_option maxRecDepth 100000 in
theorem t_X11_object (l : Launch) (hst : l.stackTraces = false) (D : va_G) (q0 sz : Nat) (fs : List Value) (hf8 : fs[8]? = some (.int 0)) (hf9 : fs[9]? = some (.int 0)) (hf10 : fs[10]? = some (.int (-1))) (hf11 : fs[11]? = some (.int (-1))) (a1 : Int32) (a2 : Int32)  : vx_Met l ly_X11_object (lw_w ly_X11_object prog_1_method_16_code 4 (some .int)) ({ frames := 8, cells := 1, slots := 6, locals := 150 }) (lw_PX D q0 fs sz [.ref q0, .int a1, .int a2]) (va_Qi (S := Unit) (fun _ _ => False) (fun _ _ => True) (fun q => sz ≤ q)) (lw_XX "java/lang/IndexOutOfBoundsException" sz) 1 6 (fun q => sz ≤ q) := by
  refine vx_ofW (cc := prog_1_method_16_code) (maxL := 4) (ret := (some .int)) (by decide) rfl ?_
  intro p e s m args below meth c s₁ B hml htab hv
  obtain ⟨rfl, hsz, hP, hK, hE⟩ := hv
  subst hsz
  have hx := B.exec
  have hb := B.bytes
  have hr := B.returns
  have hts := atoms_spec (ws := lw_w ly_X11_object prog_1_method_16_code 4 (some .int)) B.pre
  have hin : ∀ w ∈ u_ws "TableTongue" al_TX11 12, w ∈ lw_w ly_X11_object prog_1_method_16_code 4 (some .int) := fun w hw => List.mem_cons_of_mem _ (lw_u (ci := 3) rfl w hw)
  have hown : s.vm.findClass "TableTongue" = some m.cls := findClass_of_methodNamed B.named
  have hlocks := B.notSynchronized
  have hS : va_S (fun q => s.heap.size ≤ q) s.heap s.heap [] := va_S.rf
  have hl := lv_entry ([.ref q0, .int a1, .int a2]) (n := 4) (Nat.le_of_ble_eq_true rfl)
  rw [lg_entry_eq]
  generalize (lg_sl ([.ref q0, .int a1, .int a2]) ++ List.replicate (4 - (lg_sl ([.ref q0, .int a1, .int a2])).length) Slot.unset).toArray = ls at hl ⊢
  have hl : lv_has ls 4 [(0, .ref q0), (1, .int a1), (2, .int a2)] := hl
  refine lv_aload_n hx hb ld_X11_object_0 rfl (lv_at hl 0 rfl) ?_
  refine va_get (D := D) (ci := 3) (v := .int 0) (C := "TableTongue") (T := al_TX11) (N := 12) hx hb hts hin hown hK hP 0 rfl rfl 9 (by decide) (hts (.fieldLink "TableTongue" 99 "TableTongue" "compiled" "Z") (List.mem_cons_of_mem _ (lw_in 1586 (by decide +kernel) (by decide +kernel)))) (fun _ h9 => h9) hf9 ld_X11_object_1 ?_
  refine lv_if_eq (tgt := 32) hx hb ld_X11_object_4 (by decide) (fun _ => ?_) (fun z => absurd z (by decide))
  exact vx_throw0 (own := "TableTongue") (cls := "java/lang/IndexOutOfBoundsException") (names := lw_sup) (ik := 109) (ic := 111) (A := fun q => s.heap.size ≤ q) hx hb hst hown (by decide +kernel) (by decide +kernel) (hts _ (List.mem_cons_of_mem _ (lw_in 2123 (by decide +kernel) (by decide +kernel)))) (hts _ (List.mem_cons_of_mem _ (lw_in 424 (by decide +kernel) (by decide +kernel)))) (lw_hat hts (fun w hw => List.mem_cons_of_mem _ hw) hE lw_at111 lw_ag111) (lw_good3 lw_ag111) hE.1 hE.2.1 hS (hl.1.trans hml.symm) ld_X11_object_32 ld_X11_object_35 ld_X11_object_36 ld_X11_object_39 (fun x hx9 => (htab x hx9).elim) (Nat.le_of_ble_eq_true rfl) (Nat.le_of_ble_eq_true rfl) (Nat.le_of_ble_eq_true rfl) (Nat.le_of_ble_eq_true rfl) hlocks (fun t _ h1 h2 => ⟨(), trivial, rfl, Nat.le_trans hS.1 h1, fun q hq hn => (h2 q (Nat.lt_of_lt_of_le hq hS.1)).trans (hS.2.1 q hq hn)⟩) (fun z h9 => hS.2.2 z h9) (Nat.le_of_ble_eq_true rfl) (Nat.le_of_ble_eq_true rfl)
set_option maxHeartbeats 4000000 in
set_option maxRecDepth 100000 in
theorem t_X11_place (l : Launch) (hst : l.stackTraces = false) (D : va_G) (q0 sz : Nat) (fs : List Value) (hf8 : fs[8]? = some (.int 0)) (hf9 : fs[9]? = some (.int 0)) (hf10 : fs[10]? = some (.int (-1))) (hf11 : fs[11]? = some (.int (-1))) (a1 : Int32) (a2 : Int32) (a3 : Int32)  : vx_Met l ly_X11_place (lw_w ly_X11_place prog_1_method_17_code 5 (some .long)) ({ frames := 8, cells := 1, slots := 6, locals := 150 }) (lw_PX D q0 fs sz [.ref q0, .int a1, .int a2, .int a3]) (va_Ql (S := Unit) (fun _ _ => False) (fun _ _ => True) (fun q => sz ≤ q)) (lw_XX "java/lang/IndexOutOfBoundsException" sz) 1 6 (fun q => sz ≤ q) := by
  refine vx_ofW (cc := prog_1_method_17_code) (maxL := 5) (ret := (some .long)) (by decide) rfl ?_
  intro p e s m args below meth c s₁ B hml htab hv
  obtain ⟨rfl, hsz, hP, hK, hE⟩ := hv
  subst hsz
  have hx := B.exec
  have hb := B.bytes
  have hr := B.returns
  have hts := atoms_spec (ws := lw_w ly_X11_place prog_1_method_17_code 5 (some .long)) B.pre
  have hin : ∀ w ∈ u_ws "TableTongue" al_TX11 12, w ∈ lw_w ly_X11_place prog_1_method_17_code 5 (some .long) := fun w hw => List.mem_cons_of_mem _ (lw_u (ci := 3) rfl w hw)
  have hown : s.vm.findClass "TableTongue" = some m.cls := findClass_of_methodNamed B.named
  have hlocks := B.notSynchronized
  have hS : va_S (fun q => s.heap.size ≤ q) s.heap s.heap [] := va_S.rf
  have hl := lv_entry ([.ref q0, .int a1, .int a2, .int a3]) (n := 5) (Nat.le_of_ble_eq_true rfl)
  rw [lg_entry_eq]
  generalize (lg_sl ([.ref q0, .int a1, .int a2, .int a3]) ++ List.replicate (5 - (lg_sl ([.ref q0, .int a1, .int a2, .int a3])).length) Slot.unset).toArray = ls at hl ⊢
  have hl : lv_has ls 5 [(0, .ref q0), (1, .int a1), (2, .int a2), (3, .int a3)] := hl
  refine lv_aload_n hx hb ld_X11_place_0 rfl (lv_at hl 0 rfl) ?_
  refine va_get (D := D) (ci := 3) (v := .int 0) (C := "TableTongue") (T := al_TX11) (N := 12) hx hb hts hin hown hK hP 0 rfl rfl 9 (by decide) (hts (.fieldLink "TableTongue" 99 "TableTongue" "compiled" "Z") (List.mem_cons_of_mem _ (lw_in 1586 (by decide +kernel) (by decide +kernel)))) (fun _ h9 => h9) hf9 ld_X11_place_1 ?_
  refine lv_if_eq (tgt := 40) hx hb ld_X11_place_4 (by decide) (fun _ => ?_) (fun z => absurd z (by decide))
  exact vx_throw0 (own := "TableTongue") (cls := "java/lang/IndexOutOfBoundsException") (names := lw_sup) (ik := 109) (ic := 111) (A := fun q => s.heap.size ≤ q) hx hb hst hown (by decide +kernel) (by decide +kernel) (hts _ (List.mem_cons_of_mem _ (lw_in 2123 (by decide +kernel) (by decide +kernel)))) (hts _ (List.mem_cons_of_mem _ (lw_in 424 (by decide +kernel) (by decide +kernel)))) (lw_hat hts (fun w hw => List.mem_cons_of_mem _ hw) hE lw_at111 lw_ag111) (lw_good3 lw_ag111) hE.1 hE.2.1 hS (hl.1.trans hml.symm) ld_X11_place_40 ld_X11_place_43 ld_X11_place_44 ld_X11_place_47 (fun x hx9 => (htab x hx9).elim) (Nat.le_of_ble_eq_true rfl) (Nat.le_of_ble_eq_true rfl) (Nat.le_of_ble_eq_true rfl) (Nat.le_of_ble_eq_true rfl) hlocks (fun t _ h1 h2 => ⟨(), trivial, rfl, Nat.le_trans hS.1 h1, fun q hq hn => (h2 q (Nat.lt_of_lt_of_le hq hS.1)).trans (hS.2.1 q hq hn)⟩) (fun z h9 => hS.2.2 z h9) (Nat.le_of_ble_eq_true rfl) (Nat.le_of_ble_eq_true rfl)
set_option maxHeartbeats 4000000 in
set_option maxRecDepth 100000 in
theorem t_X11_fault (l : Launch) (hst : l.stackTraces = false) (D : va_G) (q0 sz : Nat) (fs : List Value) (hf8 : fs[8]? = some (.int 0)) (hf9 : fs[9]? = some (.int 0)) (hf10 : fs[10]? = some (.int (-1))) (hf11 : fs[11]? = some (.int (-1))) (a1 : Int32) (hbad : a1 < 0 ∨ ¬ a1 ≤ 1) : vx_Met l ly_X11_fault (lw_w ly_X11_fault prog_1_method_5_code 2 (some .int)) ({ frames := 8, cells := 1, slots := 6, locals := 150 }) (lw_PX D q0 fs sz [.ref q0, .int a1]) (va_Qi (S := Unit) (fun _ _ => False) (fun _ _ => True) (fun q => sz ≤ q)) (lw_XX "java/lang/IndexOutOfBoundsException" sz) 1 6 (fun q => sz ≤ q) := by
  refine vx_ofW (cc := prog_1_method_5_code) (maxL := 2) (ret := (some .int)) (by decide) rfl ?_
  intro p e s m args below meth c s₁ B hml htab hv
  obtain ⟨rfl, hsz, hP, hK, hE⟩ := hv
  subst hsz
  have hx := B.exec
  have hb := B.bytes
  have hr := B.returns
  have hts := atoms_spec (ws := lw_w ly_X11_fault prog_1_method_5_code 2 (some .int)) B.pre
  have hin : ∀ w ∈ u_ws "TableTongue" al_TX11 12, w ∈ lw_w ly_X11_fault prog_1_method_5_code 2 (some .int) := fun w hw => List.mem_cons_of_mem _ (lw_u (ci := 3) rfl w hw)
  have hown : s.vm.findClass "TableTongue" = some m.cls := findClass_of_methodNamed B.named
  have hlocks := B.notSynchronized
  have hS : va_S (fun q => s.heap.size ≤ q) s.heap s.heap [] := va_S.rf
  have hl := lv_entry ([.ref q0, .int a1]) (n := 2) (Nat.le_of_ble_eq_true rfl)
  rw [lg_entry_eq]
  generalize (lg_sl ([.ref q0, .int a1]) ++ List.replicate (2 - (lg_sl ([.ref q0, .int a1])).length) Slot.unset).toArray = ls at hl ⊢
  have hl : lv_has ls 2 [(0, .ref q0), (1, .int a1)] := hl
  refine lv_iload_n hx hb ld_X11_fault_0 rfl (lv_at hl 1 rfl) ?_
  refine lv_if_lt (tgt := 9) hx hb ld_X11_fault_1 (by decide) (fun c_1 => ?_) (fun c_1 => ?_)
  · skip
    exact vx_throw0 (own := "TableTongue") (cls := "java/lang/IndexOutOfBoundsException") (names := lw_sup) (ik := 109) (ic := 111) (A := fun q => s.heap.size ≤ q) hx hb hst hown (by decide +kernel) (by decide +kernel) (hts _ (List.mem_cons_of_mem _ (lw_in 2123 (by decide +kernel) (by decide +kernel)))) (hts _ (List.mem_cons_of_mem _ (lw_in 424 (by decide +kernel) (by decide +kernel)))) (lw_hat hts (fun w hw => List.mem_cons_of_mem _ hw) hE lw_at111 lw_ag111) (lw_good3 lw_ag111) hE.1 hE.2.1 hS (hl.1.trans hml.symm) ld_X11_fault_9 ld_X11_fault_12 ld_X11_fault_13 ld_X11_fault_16 (fun x hx9 => (htab x hx9).elim) (Nat.le_of_ble_eq_true rfl) (Nat.le_of_ble_eq_true rfl) (Nat.le_of_ble_eq_true rfl) (Nat.le_of_ble_eq_true rfl) hlocks (fun t _ h1 h2 => ⟨(), trivial, rfl, Nat.le_trans hS.1 h1, fun q hq hn => (h2 q (Nat.lt_of_lt_of_le hq hS.1)).trans (hS.2.1 q hq hn)⟩) (fun z h9 => hS.2.2 z h9) (Nat.le_of_ble_eq_true rfl) (Nat.le_of_ble_eq_true rfl)
  · skip
    refine lv_iload_n hx hb ld_X11_fault_4 rfl (lv_at hl 1 rfl) ?_
    refine lv_iconst (v := 1) hx hb ld_X11_fault_5 (by decide) ?_
    refine lv_icmp_le (tgt := 17) hx hb ld_X11_fault_6 (by decide) (fun z => absurd z (hbad.resolve_left c_1)) (fun _ => ?_)
    exact vx_throw0 (own := "TableTongue") (cls := "java/lang/IndexOutOfBoundsException") (names := lw_sup) (ik := 109) (ic := 111) (A := fun q => s.heap.size ≤ q) hx hb hst hown (by decide +kernel) (by decide +kernel) (hts _ (List.mem_cons_of_mem _ (lw_in 2123 (by decide +kernel) (by decide +kernel)))) (hts _ (List.mem_cons_of_mem _ (lw_in 424 (by decide +kernel) (by decide +kernel)))) (lw_hat hts (fun w hw => List.mem_cons_of_mem _ hw) hE lw_at111 lw_ag111) (lw_good3 lw_ag111) hE.1 hE.2.1 hS (hl.1.trans hml.symm) ld_X11_fault_9 ld_X11_fault_12 ld_X11_fault_13 ld_X11_fault_16 (fun x hx9 => (htab x hx9).elim) (Nat.le_of_ble_eq_true rfl) (Nat.le_of_ble_eq_true rfl) (Nat.le_of_ble_eq_true rfl) (Nat.le_of_ble_eq_true rfl) hlocks (fun t _ h1 h2 => ⟨(), trivial, rfl, Nat.le_trans hS.1 h1, fun q hq hn => (h2 q (Nat.lt_of_lt_of_le hq hS.1)).trans (hS.2.1 q hq hn)⟩) (fun z h9 => hS.2.2 z h9) (Nat.le_of_ble_eq_true rfl) (Nat.le_of_ble_eq_true rfl)
set_option maxHeartbeats 4000000 in
set_option maxRecDepth 100000 in
theorem t_X11_count (l : Launch) (hst : l.stackTraces = false) (D : va_G) (q0 sz : Nat) (fs : List Value) (hf8 : fs[8]? = some (.int 0)) (hf9 : fs[9]? = some (.int 0)) (hf10 : fs[10]? = some (.int (-1))) (hf11 : fs[11]? = some (.int (-1))) (a1 : Int32) (hbad : a1 < 0 ∨ ¬ a1 ≤ 5) : vx_Met l ly_X11_count (lw_w ly_X11_count prog_1_method_15_code 2 (some .int)) ({ frames := 8, cells := 1, slots := 6, locals := 150 }) (lw_PX D q0 fs sz [.ref q0, .int a1]) (va_Qi (S := Unit) (fun _ _ => False) (fun _ _ => True) (fun q => sz ≤ q)) (lw_XX "java/lang/IndexOutOfBoundsException" sz) 1 6 (fun q => sz ≤ q) := by
  refine vx_ofW (cc := prog_1_method_15_code) (maxL := 2) (ret := (some .int)) (by decide) rfl ?_
  intro p e s m args below meth c s₁ B hml htab hv
  obtain ⟨rfl, hsz, hP, hK, hE⟩ := hv
  subst hsz
  have hx := B.exec
  have hb := B.bytes
  have hr := B.returns
  have hts := atoms_spec (ws := lw_w ly_X11_count prog_1_method_15_code 2 (some .int)) B.pre
  have hin : ∀ w ∈ u_ws "TableTongue" al_TX11 12, w ∈ lw_w ly_X11_count prog_1_method_15_code 2 (some .int) := fun w hw => List.mem_cons_of_mem _ (lw_u (ci := 3) rfl w hw)
  have hown : s.vm.findClass "TableTongue" = some m.cls := findClass_of_methodNamed B.named
  have hlocks := B.notSynchronized
  have hS : va_S (fun q => s.heap.size ≤ q) s.heap s.heap [] := va_S.rf
  have hl := lv_entry ([.ref q0, .int a1]) (n := 2) (Nat.le_of_ble_eq_true rfl)
  rw [lg_entry_eq]
  generalize (lg_sl ([.ref q0, .int a1]) ++ List.replicate (2 - (lg_sl ([.ref q0, .int a1])).length) Slot.unset).toArray = ls at hl ⊢
  have hl : lv_has ls 2 [(0, .ref q0), (1, .int a1)] := hl
  refine lv_iload_n hx hb ld_X11_count_0 rfl (lv_at hl 1 rfl) ?_
  refine lv_if_lt (tgt := 9) hx hb ld_X11_count_1 (by decide) (fun c_1 => ?_) (fun c_1 => ?_)
  · skip
    exact vx_throw0 (own := "TableTongue") (cls := "java/lang/IndexOutOfBoundsException") (names := lw_sup) (ik := 109) (ic := 111) (A := fun q => s.heap.size ≤ q) hx hb hst hown (by decide +kernel) (by decide +kernel) (hts _ (List.mem_cons_of_mem _ (lw_in 2123 (by decide +kernel) (by decide +kernel)))) (hts _ (List.mem_cons_of_mem _ (lw_in 424 (by decide +kernel) (by decide +kernel)))) (lw_hat hts (fun w hw => List.mem_cons_of_mem _ hw) hE lw_at111 lw_ag111) (lw_good3 lw_ag111) hE.1 hE.2.1 hS (hl.1.trans hml.symm) ld_X11_count_9 ld_X11_count_12 ld_X11_count_13 ld_X11_count_16 (fun x hx9 => (htab x hx9).elim) (Nat.le_of_ble_eq_true rfl) (Nat.le_of_ble_eq_true rfl) (Nat.le_of_ble_eq_true rfl) (Nat.le_of_ble_eq_true rfl) hlocks (fun t _ h1 h2 => ⟨(), trivial, rfl, Nat.le_trans hS.1 h1, fun q hq hn => (h2 q (Nat.lt_of_lt_of_le hq hS.1)).trans (hS.2.1 q hq hn)⟩) (fun z h9 => hS.2.2 z h9) (Nat.le_of_ble_eq_true rfl) (Nat.le_of_ble_eq_true rfl)
  · skip
    refine lv_iload_n hx hb ld_X11_count_4 rfl (lv_at hl 1 rfl) ?_
    refine lv_iconst (v := 5) hx hb ld_X11_count_5 (by decide) ?_
    refine lv_icmp_le (tgt := 17) hx hb ld_X11_count_6 (by decide) (fun z => absurd z (hbad.resolve_left c_1)) (fun _ => ?_)
    exact vx_throw0 (own := "TableTongue") (cls := "java/lang/IndexOutOfBoundsException") (names := lw_sup) (ik := 109) (ic := 111) (A := fun q => s.heap.size ≤ q) hx hb hst hown (by decide +kernel) (by decide +kernel) (hts _ (List.mem_cons_of_mem _ (lw_in 2123 (by decide +kernel) (by decide +kernel)))) (hts _ (List.mem_cons_of_mem _ (lw_in 424 (by decide +kernel) (by decide +kernel)))) (lw_hat hts (fun w hw => List.mem_cons_of_mem _ hw) hE lw_at111 lw_ag111) (lw_good3 lw_ag111) hE.1 hE.2.1 hS (hl.1.trans hml.symm) ld_X11_count_9 ld_X11_count_12 ld_X11_count_13 ld_X11_count_16 (fun x hx9 => (htab x hx9).elim) (Nat.le_of_ble_eq_true rfl) (Nat.le_of_ble_eq_true rfl) (Nat.le_of_ble_eq_true rfl) (Nat.le_of_ble_eq_true rfl) hlocks (fun t _ h1 h2 => ⟨(), trivial, rfl, Nat.le_trans hS.1 h1, fun q hq hn => (h2 q (Nat.lt_of_lt_of_le hq hS.1)).trans (hS.2.1 q hq hn)⟩) (fun z h9 => hS.2.2 z h9) (Nat.le_of_ble_eq_true rfl) (Nat.le_of_ble_eq_true rfl)
set_option maxHeartbeats 4000000 in
set_option maxRecDepth 100000 in
theorem t_X11_feed (l : Launch) (hst : l.stackTraces = false) (D : va_G) (q0 sz : Nat) (fs : List Value) (hf8 : fs[8]? = some (.int 0)) (hf9 : fs[9]? = some (.int 0)) (hf10 : fs[10]? = some (.int (-1))) (hf11 : fs[11]? = some (.int (-1))) (a1 : Int32) (a2 : Int64) (hbad : a1 < 1 ∨ 8 < a1) : vx_Met l ly_X11_feed (lw_w ly_X11_feed prog_1_method_2_code 5 (some .int)) ({ frames := 8, cells := 1, slots := 6, locals := 150 }) (lw_PX D q0 fs sz [.ref q0, .int a1, .long a2]) (va_Qi (S := Unit) (fun _ _ => False) (fun _ _ => True) (fun q => sz ≤ q)) (lw_XX "java/lang/IllegalArgumentException" sz) 1 6 (fun q => sz ≤ q) := by
  refine vx_ofW (cc := prog_1_method_2_code) (maxL := 5) (ret := (some .int)) (by decide) rfl ?_
  intro p e s m args below meth c s₁ B hml htab hv
  obtain ⟨rfl, hsz, hP, hK, hE⟩ := hv
  subst hsz
  have hx := B.exec
  have hb := B.bytes
  have hr := B.returns
  have hts := atoms_spec (ws := lw_w ly_X11_feed prog_1_method_2_code 5 (some .int)) B.pre
  have hin : ∀ w ∈ u_ws "TableTongue" al_TX11 12, w ∈ lw_w ly_X11_feed prog_1_method_2_code 5 (some .int) := fun w hw => List.mem_cons_of_mem _ (lw_u (ci := 3) rfl w hw)
  have hown : s.vm.findClass "TableTongue" = some m.cls := findClass_of_methodNamed B.named
  have hlocks := B.notSynchronized
  have hS : va_S (fun q => s.heap.size ≤ q) s.heap s.heap [] := va_S.rf
  have hl := lv_entry ([.ref q0, .int a1, .long a2]) (n := 5) (Nat.le_of_ble_eq_true rfl)
  rw [lg_entry_eq]
  generalize (lg_sl ([.ref q0, .int a1, .long a2]) ++ List.replicate (5 - (lg_sl ([.ref q0, .int a1, .long a2])).length) Slot.unset).toArray = ls at hl ⊢
  have hl : lv_has ls 5 [(0, .ref q0), (1, .int a1), (2, .long a2)] := hl
  refine lv_iload_n hx hb ld_X11_feed_0 rfl (lv_at hl 1 rfl) ?_
  refine lv_iconst (v := 1) hx hb ld_X11_feed_1 (by decide) ?_
  refine lv_icmp_lt (tgt := 23) hx hb ld_X11_feed_2 (by decide) (fun c_1 => ?_) (fun c_1 => ?_)
  · skip
    exact vx_throw0 (own := "TableTongue") (cls := "java/lang/IllegalArgumentException") (names := lw_sup) (ik := 83) (ic := 85) (A := fun q => s.heap.size ≤ q) hx hb hst hown (by decide +kernel) (by decide +kernel) (hts _ (List.mem_cons_of_mem _ (lw_in 2104 (by decide +kernel) (by decide +kernel)))) (hts _ (List.mem_cons_of_mem _ (lw_in 415 (by decide +kernel) (by decide +kernel)))) (lw_hat hts (fun w hw => List.mem_cons_of_mem _ hw) hE lw_at85 lw_ag85) (lw_good3 lw_ag85) hE.1 hE.2.1 hS (hl.1.trans hml.symm) ld_X11_feed_23 ld_X11_feed_26 ld_X11_feed_27 ld_X11_feed_30 (fun x hx9 => (htab x hx9).elim) (Nat.le_of_ble_eq_true rfl) (Nat.le_of_ble_eq_true rfl) (Nat.le_of_ble_eq_true rfl) (Nat.le_of_ble_eq_true rfl) hlocks (fun t _ h1 h2 => ⟨(), trivial, rfl, Nat.le_trans hS.1 h1, fun q hq hn => (h2 q (Nat.lt_of_lt_of_le hq hS.1)).trans (hS.2.1 q hq hn)⟩) (fun z h9 => hS.2.2 z h9) (Nat.le_of_ble_eq_true rfl) (Nat.le_of_ble_eq_true rfl)
  · skip
    refine lv_iload_n hx hb ld_X11_feed_5 rfl (lv_at hl 1 rfl) ?_
    refine lv_bipush (v := 8) hx hb ld_X11_feed_6 (by decide) ?_
    refine lv_icmp_gt (tgt := 23) hx hb ld_X11_feed_8 (by decide) (fun _ => ?_) (fun z => absurd (hbad.resolve_left c_1) z)
    exact vx_throw0 (own := "TableTongue") (cls := "java/lang/IllegalArgumentException") (names := lw_sup) (ik := 83) (ic := 85) (A := fun q => s.heap.size ≤ q) hx hb hst hown (by decide +kernel) (by decide +kernel) (hts _ (List.mem_cons_of_mem _ (lw_in 2104 (by decide +kernel) (by decide +kernel)))) (hts _ (List.mem_cons_of_mem _ (lw_in 415 (by decide +kernel) (by decide +kernel)))) (lw_hat hts (fun w hw => List.mem_cons_of_mem _ hw) hE lw_at85 lw_ag85) (lw_good3 lw_ag85) hE.1 hE.2.1 hS (hl.1.trans hml.symm) ld_X11_feed_23 ld_X11_feed_26 ld_X11_feed_27 ld_X11_feed_30 (fun x hx9 => (htab x hx9).elim) (Nat.le_of_ble_eq_true rfl) (Nat.le_of_ble_eq_true rfl) (Nat.le_of_ble_eq_true rfl) (Nat.le_of_ble_eq_true rfl) hlocks (fun t _ h1 h2 => ⟨(), trivial, rfl, Nat.le_trans hS.1 h1, fun q hq hn => (h2 q (Nat.lt_of_lt_of_le hq hS.1)).trans (hS.2.1 q hq hn)⟩) (fun z h9 => hS.2.2 z h9) (Nat.le_of_ble_eq_true rfl) (Nat.le_of_ble_eq_true rfl)
