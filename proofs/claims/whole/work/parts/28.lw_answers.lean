/-! ===== 28: the class's face on a fresh object: what answers, what throws behind results() (by wip/p1/walk.py) ===== -/
theorem lw_GoodIn {y y2 : MethodName} {b b2 : ByteArray} {n n2 : Nat} {r r2 : Option FieldType} (h : Jvm.Cond.code y b n r ∈ lw_w y2 b2 n2 r2) (g : goodWord (Jvm.Cond.code y b n r) = true) : GoodIn (lw_w y2 b2 n2 r2) (lw_w y b n r) := fun w hw => by
  rcases List.mem_cons.mp hw with rfl | hw
  · exact ⟨h, good_of_word g⟩
  · exact ⟨List.mem_cons_of_mem _ hw, good_of_word (lw_Gg hw)⟩
def ly_X11_results : MethodName := ⟨"TableTongue", "results", "()I"⟩
def ly_X11_outputs : MethodName := ⟨"TableTongue", "outputs", "()I"⟩
def ly_X11_steps : MethodName := ⟨"TableTongue", "steps", "()J"⟩
def ly_X11_result : MethodName := ⟨"TableTongue", "result", "(II)J"⟩
def ly_X11_resultByte : MethodName := ⟨"TableTongue", "resultByte", "(II)I"⟩
theorem ld_X11_results_0 : decode prog_1_method_10_code 0 = .ok (.aload_n 0, 1) := by decide +kernel
theorem ld_X11_results_1 : decode prog_1_method_10_code 1 = .ok (.getfield 99, 3) := by decide +kernel
theorem ld_X11_results_4 : decode prog_1_method_10_code 4 = .ok (.ifCond .eq 13, 3) := by decide +kernel
theorem ld_X11_results_17 : decode prog_1_method_10_code 17 = .ok (.iconst 0, 1) := by decide +kernel
theorem ld_X11_results_18 : decode prog_1_method_10_code 18 = .ok (.ireturn, 1) := by decide +kernel
theorem ld_X11_outputs_0 : decode prog_1_method_13_code 0 = .ok (.aload_n 0, 1) := by decide +kernel
theorem ld_X11_outputs_1 : decode prog_1_method_13_code 1 = .ok (.getfield 99, 3) := by decide +kernel
theorem ld_X11_outputs_4 : decode prog_1_method_13_code 4 = .ok (.ifCond .eq 23, 3) := by decide +kernel
theorem ld_X11_outputs_27 : decode prog_1_method_13_code 27 = .ok (.iconst 0, 1) := by decide +kernel
theorem ld_X11_outputs_28 : decode prog_1_method_13_code 28 = .ok (.ireturn, 1) := by decide +kernel
theorem ld_X11_steps_0 : decode prog_1_method_9_code 0 = .ok (.aload_n 0, 1) := by decide +kernel
theorem ld_X11_steps_1 : decode prog_1_method_9_code 1 = .ok (.getfield 99, 3) := by decide +kernel
theorem ld_X11_steps_4 : decode prog_1_method_9_code 4 = .ok (.ifCond .eq 13, 3) := by decide +kernel
theorem ld_X11_steps_17 : decode prog_1_method_9_code 17 = .ok (.lconst 0, 1) := by decide +kernel
theorem ld_X11_steps_18 : decode prog_1_method_9_code 18 = .ok (.lreturn, 1) := by decide +kernel
theorem ld_X11_fault_17 : decode prog_1_method_5_code 17 = .ok (.iload_n 1, 1) := by decide +kernel
theorem ld_X11_fault_18 : decode prog_1_method_5_code 18 = .ok (.ifCond .ne 10, 3) := by decide +kernel
theorem ld_X11_fault_28 : decode prog_1_method_5_code 28 = .ok (.aload_n 0, 1) := by decide +kernel
theorem ld_X11_fault_29 : decode prog_1_method_5_code 29 = .ok (.getfield 45, 3) := by decide +kernel
theorem ld_X11_fault_32 : decode prog_1_method_5_code 32 = .ok (.ireturn, 1) := by decide +kernel
theorem ld_X11_fault_21 : decode prog_1_method_5_code 21 = .ok (.aload_n 0, 1) := by decide +kernel
theorem ld_X11_fault_22 : decode prog_1_method_5_code 22 = .ok (.getfield 41, 3) := by decide +kernel
theorem ld_X11_fault_25 : decode prog_1_method_5_code 25 = .ok (.goto 7, 3) := by decide +kernel
theorem ld_X11_count_17 : decode prog_1_method_15_code 17 = .ok (.aload_n 0, 1) := by decide +kernel
theorem ld_X11_count_18 : decode prog_1_method_15_code 18 = .ok (.getfield 99, 3) := by decide +kernel
theorem ld_X11_count_21 : decode prog_1_method_15_code 21 = .ok (.ifCond .ne 5, 3) := by decide +kernel
theorem ld_X11_count_24 : decode prog_1_method_15_code 24 = .ok (.iconst 0, 1) := by decide +kernel
theorem ld_X11_count_25 : decode prog_1_method_15_code 25 = .ok (.ireturn, 1) := by decide +kernel
theorem ld_X11_result_0 : decode prog_1_method_11_code 0 = .ok (.iload_n 1, 1) := by decide +kernel
theorem ld_X11_result_1 : decode prog_1_method_11_code 1 = .ok (.ifCond .lt 20, 3) := by decide +kernel
theorem ld_X11_result_21 : decode prog_1_method_11_code 21 = .ok (.new 109, 3) := by decide +kernel
theorem ld_X11_result_24 : decode prog_1_method_11_code 24 = .ok (.dup, 1) := by decide +kernel
theorem ld_X11_result_25 : decode prog_1_method_11_code 25 = .ok (.invokespecial 111, 3) := by decide +kernel
theorem ld_X11_result_28 : decode prog_1_method_11_code 28 = .ok (.athrow, 1) := by decide +kernel
theorem ld_X11_result_4 : decode prog_1_method_11_code 4 = .ok (.iload_n 1, 1) := by decide +kernel
theorem ld_X11_result_5 : decode prog_1_method_11_code 5 = .ok (.aload_n 0, 1) := by decide +kernel
theorem ld_X11_result_6 : decode prog_1_method_11_code 6 = .ok (.invokevirtual 140, 3) := by decide +kernel
theorem ld_X11_result_9 : decode prog_1_method_11_code 9 = .ok (.if_icmp .ge 12, 3) := by decide +kernel
theorem ld_X11_resultByte_0 : decode prog_1_method_12_code 0 = .ok (.iload_n 1, 1) := by decide +kernel
theorem ld_X11_resultByte_1 : decode prog_1_method_12_code 1 = .ok (.ifCond .lt 11, 3) := by decide +kernel
theorem ld_X11_resultByte_12 : decode prog_1_method_12_code 12 = .ok (.new 109, 3) := by decide +kernel
theorem ld_X11_resultByte_15 : decode prog_1_method_12_code 15 = .ok (.dup, 1) := by decide +kernel
theorem ld_X11_resultByte_16 : decode prog_1_method_12_code 16 = .ok (.invokespecial 111, 3) := by decide +kernel
theorem ld_X11_resultByte_19 : decode prog_1_method_12_code 19 = .ok (.athrow, 1) := by decide +kernel
theorem ld_X11_resultByte_4 : decode prog_1_method_12_code 4 = .ok (.iload_n 1, 1) := by decide +kernel
theorem ld_X11_resultByte_5 : decode prog_1_method_12_code 5 = .ok (.aload_n 0, 1) := by decide +kernel
theorem ld_X11_resultByte_6 : decode prog_1_method_12_code 6 = .ok (.invokevirtual 140, 3) := by decide +kernel
theorem ld_X11_resultByte_9 : decode prog_1_method_12_code 9 = .ok (.if_icmp .lt 11, 3) := by decide +kernel
set_option maxHeartbeats 4000000 in
set_option maxRecDepth 100000 in
theorem r_X11_results (l : Launch) (D : va_G) (q0 sz : Nat) (fs : List Value) (hf8 : fs[8]? = some (.int 0)) (hf9 : fs[9]? = some (.int 0)) (hf10 : fs[10]? = some (.int (-1))) (hf11 : fs[11]? = some (.int (-1)))   : Met l ly_X11_results (lw_w ly_X11_results prog_1_method_10_code 1 (some .int)) ({ frames := 2, cells := 0, slots := 0, locals := 40 }) (lw_PX D q0 fs sz [.ref q0]) (va_Qi (S := Unit) (fun r _ => r = 0) (fun _ _ => True) (fun q => sz ≤ q)) 0 0 (fun q => sz ≤ q) := by
  refine Met.ofW (cc := prog_1_method_10_code) (maxL := 1) (ret := (some .int)) (by decide) rfl ?_
  intro p e s m args below meth c s₁ B hml hv
  obtain ⟨rfl, hsz, hP, hK, hE⟩ := hv
  subst hsz
  have hx := B.exec
  have hb := B.bytes
  have hr := B.returns
  have hts := atoms_spec (ws := lw_w ly_X11_results prog_1_method_10_code 1 (some .int)) B.pre
  have hin : ∀ w ∈ u_ws "TableTongue" al_TX11 12, w ∈ lw_w ly_X11_results prog_1_method_10_code 1 (some .int) := fun w hw => List.mem_cons_of_mem _ (lw_u (ci := 3) rfl w hw)
  have hown : s.vm.findClass "TableTongue" = some m.cls := findClass_of_methodNamed B.named
  have hS : va_S (fun q => s.heap.size ≤ q) s.heap s.heap [] := va_S.rf
  have hl := lv_entry ([.ref q0]) (n := 1) (Nat.le_of_ble_eq_true rfl)
  rw [lg_entry_eq]
  generalize (lg_sl ([.ref q0]) ++ List.replicate (1 - (lg_sl ([.ref q0])).length) Slot.unset).toArray = ls at hl ⊢
  have hl : lv_has ls 1 [(0, .ref q0)] := hl
  refine lv_aload_n hx hb ld_X11_results_0 rfl (lv_at hl 0 rfl) ?_
  refine va_get (D := D) (ci := 3) (v := .int 0) (C := "TableTongue") (T := al_TX11) (N := 12) hx hb hts hin hown hK hP 0 rfl rfl 9 (by decide) (hts (.fieldLink "TableTongue" 99 "TableTongue" "compiled" "Z") (List.mem_cons_of_mem _ (lw_in 1586 (by decide +kernel) (by decide +kernel)))) (fun _ h9 => h9) hf9 ld_X11_results_1 ?_
  refine lv_if_eq (tgt := 17) hx hb ld_X11_results_4 (by decide) (fun _ => ?_) (fun z => absurd z (by decide))
  refine lv_iconst (v := 0) hx hb ld_X11_results_17 (by decide) ?_
  exact W.iret (v := 0) hx hb hr (fun t ht hW => ⟨⟨0, (), rfl, rfl, trivial⟩, hS.F ht⟩) hS.2.2 ld_X11_results_18
set_option maxHeartbeats 4000000 in
set_option maxRecDepth 100000 in
theorem r_X11_outputs (l : Launch) (D : va_G) (q0 sz : Nat) (fs : List Value) (hf8 : fs[8]? = some (.int 0)) (hf9 : fs[9]? = some (.int 0)) (hf10 : fs[10]? = some (.int (-1))) (hf11 : fs[11]? = some (.int (-1)))   : Met l ly_X11_outputs (lw_w ly_X11_outputs prog_1_method_13_code 1 (some .int)) ({ frames := 2, cells := 0, slots := 0, locals := 40 }) (lw_PX D q0 fs sz [.ref q0]) (va_Qi (S := Unit) (fun r _ => r = 0) (fun _ _ => True) (fun q => sz ≤ q)) 0 0 (fun q => sz ≤ q) := by
  refine Met.ofW (cc := prog_1_method_13_code) (maxL := 1) (ret := (some .int)) (by decide) rfl ?_
  intro p e s m args below meth c s₁ B hml hv
  obtain ⟨rfl, hsz, hP, hK, hE⟩ := hv
  subst hsz
  have hx := B.exec
  have hb := B.bytes
  have hr := B.returns
  have hts := atoms_spec (ws := lw_w ly_X11_outputs prog_1_method_13_code 1 (some .int)) B.pre
  have hin : ∀ w ∈ u_ws "TableTongue" al_TX11 12, w ∈ lw_w ly_X11_outputs prog_1_method_13_code 1 (some .int) := fun w hw => List.mem_cons_of_mem _ (lw_u (ci := 3) rfl w hw)
  have hown : s.vm.findClass "TableTongue" = some m.cls := findClass_of_methodNamed B.named
  have hS : va_S (fun q => s.heap.size ≤ q) s.heap s.heap [] := va_S.rf
  have hl := lv_entry ([.ref q0]) (n := 1) (Nat.le_of_ble_eq_true rfl)
  rw [lg_entry_eq]
  generalize (lg_sl ([.ref q0]) ++ List.replicate (1 - (lg_sl ([.ref q0])).length) Slot.unset).toArray = ls at hl ⊢
  have hl : lv_has ls 1 [(0, .ref q0)] := hl
  refine lv_aload_n hx hb ld_X11_outputs_0 rfl (lv_at hl 0 rfl) ?_
  refine va_get (D := D) (ci := 3) (v := .int 0) (C := "TableTongue") (T := al_TX11) (N := 12) hx hb hts hin hown hK hP 0 rfl rfl 9 (by decide) (hts (.fieldLink "TableTongue" 99 "TableTongue" "compiled" "Z") (List.mem_cons_of_mem _ (lw_in 1586 (by decide +kernel) (by decide +kernel)))) (fun _ h9 => h9) hf9 ld_X11_outputs_1 ?_
  refine lv_if_eq (tgt := 27) hx hb ld_X11_outputs_4 (by decide) (fun _ => ?_) (fun z => absurd z (by decide))
  refine lv_iconst (v := 0) hx hb ld_X11_outputs_27 (by decide) ?_
  exact W.iret (v := 0) hx hb hr (fun t ht hW => ⟨⟨0, (), rfl, rfl, trivial⟩, hS.F ht⟩) hS.2.2 ld_X11_outputs_28
set_option maxHeartbeats 4000000 in
set_option maxRecDepth 100000 in
theorem r_X11_steps (l : Launch) (D : va_G) (q0 sz : Nat) (fs : List Value) (hf8 : fs[8]? = some (.int 0)) (hf9 : fs[9]? = some (.int 0)) (hf10 : fs[10]? = some (.int (-1))) (hf11 : fs[11]? = some (.int (-1)))   : Met l ly_X11_steps (lw_w ly_X11_steps prog_1_method_9_code 1 (some .long)) ({ frames := 2, cells := 0, slots := 0, locals := 40 }) (lw_PX D q0 fs sz [.ref q0]) (va_Ql (S := Unit) (fun r _ => r = 0) (fun _ _ => True) (fun q => sz ≤ q)) 0 0 (fun q => sz ≤ q) := by
  refine Met.ofW (cc := prog_1_method_9_code) (maxL := 1) (ret := (some .long)) (by decide) rfl ?_
  intro p e s m args below meth c s₁ B hml hv
  obtain ⟨rfl, hsz, hP, hK, hE⟩ := hv
  subst hsz
  have hx := B.exec
  have hb := B.bytes
  have hr := B.returns
  have hts := atoms_spec (ws := lw_w ly_X11_steps prog_1_method_9_code 1 (some .long)) B.pre
  have hin : ∀ w ∈ u_ws "TableTongue" al_TX11 12, w ∈ lw_w ly_X11_steps prog_1_method_9_code 1 (some .long) := fun w hw => List.mem_cons_of_mem _ (lw_u (ci := 3) rfl w hw)
  have hown : s.vm.findClass "TableTongue" = some m.cls := findClass_of_methodNamed B.named
  have hS : va_S (fun q => s.heap.size ≤ q) s.heap s.heap [] := va_S.rf
  have hl := lv_entry ([.ref q0]) (n := 1) (Nat.le_of_ble_eq_true rfl)
  rw [lg_entry_eq]
  generalize (lg_sl ([.ref q0]) ++ List.replicate (1 - (lg_sl ([.ref q0])).length) Slot.unset).toArray = ls at hl ⊢
  have hl : lv_has ls 1 [(0, .ref q0)] := hl
  refine lv_aload_n hx hb ld_X11_steps_0 rfl (lv_at hl 0 rfl) ?_
  refine va_get (D := D) (ci := 3) (v := .int 0) (C := "TableTongue") (T := al_TX11) (N := 12) hx hb hts hin hown hK hP 0 rfl rfl 9 (by decide) (hts (.fieldLink "TableTongue" 99 "TableTongue" "compiled" "Z") (List.mem_cons_of_mem _ (lw_in 1586 (by decide +kernel) (by decide +kernel)))) (fun _ h9 => h9) hf9 ld_X11_steps_1 ?_
  refine lv_if_eq (tgt := 17) hx hb ld_X11_steps_4 (by decide) (fun _ => ?_) (fun z => absurd z (by decide))
  refine lv_lconst (v := 0) hx hb ld_X11_steps_17 (by decide) ?_
  exact W.lret (v := 0) hx hb hr (fun t ht hW => ⟨⟨0, (), rfl, rfl, trivial⟩, hS.F ht⟩) hS.2.2 ld_X11_steps_18
set_option maxHeartbeats 4000000 in
set_option maxRecDepth 100000 in
theorem r_X11_fault (l : Launch) (D : va_G) (q0 sz : Nat) (fs : List Value) (hf8 : fs[8]? = some (.int 0)) (hf9 : fs[9]? = some (.int 0)) (hf10 : fs[10]? = some (.int (-1))) (hf11 : fs[11]? = some (.int (-1))) (a1 : Int32) (hok : a1 = 0 ∨ a1 = 1) : Met l ly_X11_fault (lw_w ly_X11_fault prog_1_method_5_code 2 (some .int)) ({ frames := 2, cells := 0, slots := 0, locals := 40 }) (lw_PX D q0 fs sz [.ref q0, .int a1]) (va_Qi (S := Unit) (fun r _ => r = -1) (fun _ _ => True) (fun q => sz ≤ q)) 0 0 (fun q => sz ≤ q) := by
  refine Met.ofW (cc := prog_1_method_5_code) (maxL := 2) (ret := (some .int)) (by decide) rfl ?_
  intro p e s m args below meth c s₁ B hml hv
  obtain ⟨rfl, hsz, hP, hK, hE⟩ := hv
  subst hsz
  have hx := B.exec
  have hb := B.bytes
  have hr := B.returns
  have hts := atoms_spec (ws := lw_w ly_X11_fault prog_1_method_5_code 2 (some .int)) B.pre
  have hin : ∀ w ∈ u_ws "TableTongue" al_TX11 12, w ∈ lw_w ly_X11_fault prog_1_method_5_code 2 (some .int) := fun w hw => List.mem_cons_of_mem _ (lw_u (ci := 3) rfl w hw)
  have hown : s.vm.findClass "TableTongue" = some m.cls := findClass_of_methodNamed B.named
  have hS : va_S (fun q => s.heap.size ≤ q) s.heap s.heap [] := va_S.rf
  have hl := lv_entry ([.ref q0, .int a1]) (n := 2) (Nat.le_of_ble_eq_true rfl)
  rw [lg_entry_eq]
  generalize (lg_sl ([.ref q0, .int a1]) ++ List.replicate (2 - (lg_sl ([.ref q0, .int a1])).length) Slot.unset).toArray = ls at hl ⊢
  have hl : lv_has ls 2 [(0, .ref q0), (1, .int a1)] := hl
  refine lv_iload_n hx hb ld_X11_fault_0 rfl (lv_at hl 1 rfl) ?_
  refine lv_if_lt (tgt := 9) hx hb ld_X11_fault_1 (by decide) (fun z => absurd z (by rcases hok with h | h <;> rw [h] <;> decide)) (fun _ => ?_)
  refine lv_iload_n hx hb ld_X11_fault_4 rfl (lv_at hl 1 rfl) ?_
  refine lv_iconst (v := 1) hx hb ld_X11_fault_5 (by decide) ?_
  refine lv_icmp_le (tgt := 17) hx hb ld_X11_fault_6 (by decide) (fun _ => ?_) (fun z => absurd (by rcases hok with h | h <;> rw [h] <;> decide) z)
  refine lv_iload_n hx hb ld_X11_fault_17 rfl (lv_at hl 1 rfl) ?_
  refine lv_if_ne (tgt := 28) hx hb ld_X11_fault_18 (by decide) (fun c_1 => ?_) (fun c_1 => ?_)
  · skip
    refine lv_aload_n hx hb ld_X11_fault_28 rfl (lv_at hl 0 rfl) ?_
    refine va_get (D := D) (ci := 3) (v := .int (-1)) (C := "TableTongue") (T := al_TX11) (N := 12) hx hb hts hin hown hK hP 0 rfl rfl 11 (by decide) (hts (.fieldLink "TableTongue" 45 "TableTongue" "faultLine" "I") (List.mem_cons_of_mem _ (lw_in 1588 (by decide +kernel) (by decide +kernel)))) (fun _ h9 => h9) hf11 ld_X11_fault_29 ?_
    exact W.iret (v := (-1)) hx hb hr (fun t ht hW => ⟨⟨(-1), (), rfl, rfl, trivial⟩, hS.F ht⟩) hS.2.2 ld_X11_fault_32
  · skip
    refine lv_aload_n hx hb ld_X11_fault_21 rfl (lv_at hl 0 rfl) ?_
    refine va_get (D := D) (ci := 3) (v := .int (-1)) (C := "TableTongue") (T := al_TX11) (N := 12) hx hb hts hin hown hK hP 0 rfl rfl 10 (by decide) (hts (.fieldLink "TableTongue" 41 "TableTongue" "faultPlace" "I") (List.mem_cons_of_mem _ (lw_in 1587 (by decide +kernel) (by decide +kernel)))) (fun _ h9 => h9) hf10 ld_X11_fault_22 ?_
    refine lv_goto (tgt := 32) hx hb ld_X11_fault_25 (by decide) ?_
    exact W.iret (v := (-1)) hx hb hr (fun t ht hW => ⟨⟨(-1), (), rfl, rfl, trivial⟩, hS.F ht⟩) hS.2.2 ld_X11_fault_32
set_option maxHeartbeats 4000000 in
set_option maxRecDepth 100000 in
theorem r_X11_count (l : Launch) (D : va_G) (q0 sz : Nat) (fs : List Value) (hf8 : fs[8]? = some (.int 0)) (hf9 : fs[9]? = some (.int 0)) (hf10 : fs[10]? = some (.int (-1))) (hf11 : fs[11]? = some (.int (-1))) (a1 : Int32) (hok0 : ¬ a1 < 0) (hok5 : a1 ≤ 5) : Met l ly_X11_count (lw_w ly_X11_count prog_1_method_15_code 2 (some .int)) ({ frames := 2, cells := 0, slots := 0, locals := 40 }) (lw_PX D q0 fs sz [.ref q0, .int a1]) (va_Qi (S := Unit) (fun r _ => r = 0) (fun _ _ => True) (fun q => sz ≤ q)) 0 0 (fun q => sz ≤ q) := by
  refine Met.ofW (cc := prog_1_method_15_code) (maxL := 2) (ret := (some .int)) (by decide) rfl ?_
  intro p e s m args below meth c s₁ B hml hv
  obtain ⟨rfl, hsz, hP, hK, hE⟩ := hv
  subst hsz
  have hx := B.exec
  have hb := B.bytes
  have hr := B.returns
  have hts := atoms_spec (ws := lw_w ly_X11_count prog_1_method_15_code 2 (some .int)) B.pre
  have hin : ∀ w ∈ u_ws "TableTongue" al_TX11 12, w ∈ lw_w ly_X11_count prog_1_method_15_code 2 (some .int) := fun w hw => List.mem_cons_of_mem _ (lw_u (ci := 3) rfl w hw)
  have hown : s.vm.findClass "TableTongue" = some m.cls := findClass_of_methodNamed B.named
  have hS : va_S (fun q => s.heap.size ≤ q) s.heap s.heap [] := va_S.rf
  have hl := lv_entry ([.ref q0, .int a1]) (n := 2) (Nat.le_of_ble_eq_true rfl)
  rw [lg_entry_eq]
  generalize (lg_sl ([.ref q0, .int a1]) ++ List.replicate (2 - (lg_sl ([.ref q0, .int a1])).length) Slot.unset).toArray = ls at hl ⊢
  have hl : lv_has ls 2 [(0, .ref q0), (1, .int a1)] := hl
  refine lv_iload_n hx hb ld_X11_count_0 rfl (lv_at hl 1 rfl) ?_
  refine lv_if_lt (tgt := 9) hx hb ld_X11_count_1 (by decide) (fun z => absurd z hok0) (fun _ => ?_)
  refine lv_iload_n hx hb ld_X11_count_4 rfl (lv_at hl 1 rfl) ?_
  refine lv_iconst (v := 5) hx hb ld_X11_count_5 (by decide) ?_
  refine lv_icmp_le (tgt := 17) hx hb ld_X11_count_6 (by decide) (fun _ => ?_) (fun z => absurd hok5 z)
  refine lv_aload_n hx hb ld_X11_count_17 rfl (lv_at hl 0 rfl) ?_
  refine va_get (D := D) (ci := 3) (v := .int 0) (C := "TableTongue") (T := al_TX11) (N := 12) hx hb hts hin hown hK hP 0 rfl rfl 9 (by decide) (hts (.fieldLink "TableTongue" 99 "TableTongue" "compiled" "Z") (List.mem_cons_of_mem _ (lw_in 1586 (by decide +kernel) (by decide +kernel)))) (fun _ h9 => h9) hf9 ld_X11_count_18 ?_
  refine lv_if_ne (tgt := 26) hx hb ld_X11_count_21 (by decide) (fun z => absurd z (by decide)) (fun _ => ?_)
  refine lv_iconst (v := 0) hx hb ld_X11_count_24 (by decide) ?_
  exact W.iret (v := 0) hx hb hr (fun t ht hW => ⟨⟨0, (), rfl, rfl, trivial⟩, hS.F ht⟩) hS.2.2 ld_X11_count_25
set_option maxHeartbeats 4000000 in
set_option maxRecDepth 100000 in
theorem t_X11_result (l : Launch) (hst : l.stackTraces = false) (D : va_G) (q0 sz : Nat) (fs : List Value) (hf8 : fs[8]? = some (.int 0)) (hf9 : fs[9]? = some (.int 0)) (hf10 : fs[10]? = some (.int (-1))) (hf11 : fs[11]? = some (.int (-1))) (a1 : Int32) (a2 : Int32)  : vx_Met l ly_X11_result (lw_w ly_X11_result prog_1_method_11_code 4 (some .long)) ({ frames := 8, cells := 1, slots := 6, locals := 150 }) (lw_PX D q0 fs sz [.ref q0, .int a1, .int a2]) (va_Ql (S := Unit) (fun _ _ => False) (fun _ _ => True) (fun q => sz ≤ q)) (lw_XX "java/lang/IndexOutOfBoundsException" sz) 1 6 (fun q => sz ≤ q) := by
  refine vx_ofW (cc := prog_1_method_11_code) (maxL := 4) (ret := (some .long)) (by decide) rfl ?_
  intro p e s m args below meth c s₁ B hml htab hv
  obtain ⟨rfl, hsz, hP, hK, hE⟩ := hv
  subst hsz
  have hx := B.exec
  have hb := B.bytes
  have hr := B.returns
  have hts := atoms_spec (ws := lw_w ly_X11_result prog_1_method_11_code 4 (some .long)) B.pre
  have hin : ∀ w ∈ u_ws "TableTongue" al_TX11 12, w ∈ lw_w ly_X11_result prog_1_method_11_code 4 (some .long) := fun w hw => List.mem_cons_of_mem _ (lw_u (ci := 3) rfl w hw)
  have hown : s.vm.findClass "TableTongue" = some m.cls := findClass_of_methodNamed B.named
  have hlocks := B.notSynchronized
  have hS : va_S (fun q => s.heap.size ≤ q) s.heap s.heap [] := va_S.rf
  have hl := lv_entry ([.ref q0, .int a1, .int a2]) (n := 4) (Nat.le_of_ble_eq_true rfl)
  rw [lg_entry_eq]
  generalize (lg_sl ([.ref q0, .int a1, .int a2]) ++ List.replicate (4 - (lg_sl ([.ref q0, .int a1, .int a2])).length) Slot.unset).toArray = ls at hl ⊢
  have hl : lv_has ls 4 [(0, .ref q0), (1, .int a1), (2, .int a2)] := hl
  refine lv_iload_n hx hb ld_X11_result_0 rfl (lv_at hl 1 rfl) ?_
  refine lv_if_lt (tgt := 21) hx hb ld_X11_result_1 (by decide) (fun c_1 => ?_) (fun c_1 => ?_)
  · skip
    exact vx_throw0 (own := "TableTongue") (cls := "java/lang/IndexOutOfBoundsException") (names := lw_sup) (ik := 109) (ic := 111) (A := fun q => s.heap.size ≤ q) hx hb hst hown (by decide +kernel) (by decide +kernel) (hts _ (List.mem_cons_of_mem _ (lw_in 2123 (by decide +kernel) (by decide +kernel)))) (hts _ (List.mem_cons_of_mem _ (lw_in 424 (by decide +kernel) (by decide +kernel)))) (lw_hat hts (fun w hw => List.mem_cons_of_mem _ hw) hE lw_at111 lw_ag111) (lw_good3 lw_ag111) hE.1 hE.2.1 hS (hl.1.trans hml.symm) ld_X11_result_21 ld_X11_result_24 ld_X11_result_25 ld_X11_result_28 (fun x hx9 => (htab x hx9).elim) (Nat.le_of_ble_eq_true rfl) (Nat.le_of_ble_eq_true rfl) (Nat.le_of_ble_eq_true rfl) (Nat.le_of_ble_eq_true rfl) hlocks (fun t _ h1 h2 => ⟨(), trivial, rfl, Nat.le_trans hS.1 h1, fun q hq hn => (h2 q (Nat.lt_of_lt_of_le hq hS.1)).trans (hS.2.1 q hq hn)⟩) (fun z h9 => hS.2.2 z h9) (Nat.le_of_ble_eq_true rfl) (Nat.le_of_ble_eq_true rfl)
  · skip
    refine lv_iload_n hx hb ld_X11_result_4 rfl (lv_at hl 1 rfl) ?_
    refine lv_aload_n hx hb ld_X11_result_5 rfl (lv_at hl 0 rfl) ?_
    refine va_calli (va_runV (As := []) (rest := [.int a1]) (C := "TableTongue") (Ts := lw_w ly_X11_result prog_1_method_11_code 4 (some .long)) ⟨hx, hb, hml, hown, hts⟩ (r_X11_results l D q0 s.heap.size fs hf8 hf9 hf10 hf11) ⟨callB_of 0 hts (lw_GoodIn (List.mem_cons_of_mem _ (lw_in 2083 (by decide +kernel) (by decide +kernel))) (by decide +kernel)) rfl rfl rfl (hts _ (List.mem_cons_of_mem _ (lw_in 394 (by decide +kernel) (by decide +kernel)))) (hts _ (List.mem_cons_of_mem _ (lw_in 2908 (by decide +kernel) (by decide +kernel)))) ⟨by decide, by decide, by decide +kernel⟩ ⟨Nat.le_of_ble_eq_true rfl, Nat.le_of_ble_eq_true rfl⟩, hts _ (List.mem_cons_of_mem _ (lw_in 2081 (by decide +kernel) (by decide +kernel))), hts _ (List.mem_cons_of_mem _ (lw_in 2082 (by decide +kernel) (by decide +kernel)))⟩ ⟨lw_PX.blind, va_recv hK hP (ci := 3) (q0 := 0) rfl rfl, fun U hU hW => ⟨rfl, by rw [hU], by rw [hU]; exact hP, va_K.moved hW.alike hK, hE.go hW hU va_S.rf (fun _ h => h)⟩⟩ rfl rfl hl.1 rfl (lv_room (Nat.le_of_ble_eq_true rfl)) ld_X11_result_6 ⟨Nat.le_of_ble_eq_true rfl, Nat.le_of_ble_eq_true rfl⟩) va_S.rf (fun q _ h => h) (fun q h => h) (fun r_6 u t H1 locs1 ht hvm hw _ hz1 hk1 hS => ?_)
    obtain rfl : r_6 = 0 := hw
    refine lv_icmp_ge (tgt := 21) hx hb ld_X11_result_9 (by decide) (fun _ => ?_) (fun z => absurd (by first | exact Int32.not_lt.mp c_1 | omega) z)
    exact vx_throw0 (own := "TableTongue") (cls := "java/lang/IndexOutOfBoundsException") (names := lw_sup) (ik := 109) (ic := 111) (A := fun q => s.heap.size ≤ q) hx hb hst hown (by decide +kernel) (by decide +kernel) (hts _ (List.mem_cons_of_mem _ (lw_in 2123 (by decide +kernel) (by decide +kernel)))) (hts _ (List.mem_cons_of_mem _ (lw_in 424 (by decide +kernel) (by decide +kernel)))) (lw_hat hts (fun w hw => List.mem_cons_of_mem _ hw) hE lw_at111 lw_ag111) (lw_good3 lw_ag111) hE.1 hE.2.1 hS (hl.1.trans hml.symm) ld_X11_result_21 ld_X11_result_24 ld_X11_result_25 ld_X11_result_28 (fun x hx9 => (htab x hx9).elim) (Nat.le_of_ble_eq_true rfl) (Nat.le_of_ble_eq_true rfl) (Nat.le_of_ble_eq_true rfl) (Nat.le_of_ble_eq_true rfl) hlocks (fun t _ h1 h2 => ⟨(), trivial, rfl, Nat.le_trans hS.1 h1, fun q hq hn => (h2 q (Nat.lt_of_lt_of_le hq hS.1)).trans (hS.2.1 q hq hn)⟩) (fun z h9 => hS.2.2 z h9) (Nat.le_of_ble_eq_true rfl) (Nat.le_of_ble_eq_true rfl)
set_option maxHeartbeats 4000000 in
set_option maxRecDepth 100000 in
theorem t_X11_resultByte (l : Launch) (hst : l.stackTraces = false) (D : va_G) (q0 sz : Nat) (fs : List Value) (hf8 : fs[8]? = some (.int 0)) (hf9 : fs[9]? = some (.int 0)) (hf10 : fs[10]? = some (.int (-1))) (hf11 : fs[11]? = some (.int (-1))) (a1 : Int32) (a2 : Int32)  : vx_Met l ly_X11_resultByte (lw_w ly_X11_resultByte prog_1_method_12_code 4 (some .int)) ({ frames := 8, cells := 1, slots := 6, locals := 150 }) (lw_PX D q0 fs sz [.ref q0, .int a1, .int a2]) (va_Qi (S := Unit) (fun _ _ => False) (fun _ _ => True) (fun q => sz ≤ q)) (lw_XX "java/lang/IndexOutOfBoundsException" sz) 1 6 (fun q => sz ≤ q) := by
  refine vx_ofW (cc := prog_1_method_12_code) (maxL := 4) (ret := (some .int)) (by decide) rfl ?_
  intro p e s m args below meth c s₁ B hml htab hv
  obtain ⟨rfl, hsz, hP, hK, hE⟩ := hv
  subst hsz
  have hx := B.exec
  have hb := B.bytes
  have hr := B.returns
  have hts := atoms_spec (ws := lw_w ly_X11_resultByte prog_1_method_12_code 4 (some .int)) B.pre
  have hin : ∀ w ∈ u_ws "TableTongue" al_TX11 12, w ∈ lw_w ly_X11_resultByte prog_1_method_12_code 4 (some .int) := fun w hw => List.mem_cons_of_mem _ (lw_u (ci := 3) rfl w hw)
  have hown : s.vm.findClass "TableTongue" = some m.cls := findClass_of_methodNamed B.named
  have hlocks := B.notSynchronized
  have hS : va_S (fun q => s.heap.size ≤ q) s.heap s.heap [] := va_S.rf
  have hl := lv_entry ([.ref q0, .int a1, .int a2]) (n := 4) (Nat.le_of_ble_eq_true rfl)
  rw [lg_entry_eq]
  generalize (lg_sl ([.ref q0, .int a1, .int a2]) ++ List.replicate (4 - (lg_sl ([.ref q0, .int a1, .int a2])).length) Slot.unset).toArray = ls at hl ⊢
  have hl : lv_has ls 4 [(0, .ref q0), (1, .int a1), (2, .int a2)] := hl
  refine lv_iload_n hx hb ld_X11_resultByte_0 rfl (lv_at hl 1 rfl) ?_
  refine lv_if_lt (tgt := 12) hx hb ld_X11_resultByte_1 (by decide) (fun c_1 => ?_) (fun c_1 => ?_)
  · skip
    exact vx_throw0 (own := "TableTongue") (cls := "java/lang/IndexOutOfBoundsException") (names := lw_sup) (ik := 109) (ic := 111) (A := fun q => s.heap.size ≤ q) hx hb hst hown (by decide +kernel) (by decide +kernel) (hts _ (List.mem_cons_of_mem _ (lw_in 2123 (by decide +kernel) (by decide +kernel)))) (hts _ (List.mem_cons_of_mem _ (lw_in 424 (by decide +kernel) (by decide +kernel)))) (lw_hat hts (fun w hw => List.mem_cons_of_mem _ hw) hE lw_at111 lw_ag111) (lw_good3 lw_ag111) hE.1 hE.2.1 hS (hl.1.trans hml.symm) ld_X11_resultByte_12 ld_X11_resultByte_15 ld_X11_resultByte_16 ld_X11_resultByte_19 (fun x hx9 => (htab x hx9).elim) (Nat.le_of_ble_eq_true rfl) (Nat.le_of_ble_eq_true rfl) (Nat.le_of_ble_eq_true rfl) (Nat.le_of_ble_eq_true rfl) hlocks (fun t _ h1 h2 => ⟨(), trivial, rfl, Nat.le_trans hS.1 h1, fun q hq hn => (h2 q (Nat.lt_of_lt_of_le hq hS.1)).trans (hS.2.1 q hq hn)⟩) (fun z h9 => hS.2.2 z h9) (Nat.le_of_ble_eq_true rfl) (Nat.le_of_ble_eq_true rfl)
  · skip
    refine lv_iload_n hx hb ld_X11_resultByte_4 rfl (lv_at hl 1 rfl) ?_
    refine lv_aload_n hx hb ld_X11_resultByte_5 rfl (lv_at hl 0 rfl) ?_
    refine va_calli (va_runV (As := []) (rest := [.int a1]) (C := "TableTongue") (Ts := lw_w ly_X11_resultByte prog_1_method_12_code 4 (some .int)) ⟨hx, hb, hml, hown, hts⟩ (r_X11_results l D q0 s.heap.size fs hf8 hf9 hf10 hf11) ⟨callB_of 0 hts (lw_GoodIn (List.mem_cons_of_mem _ (lw_in 2083 (by decide +kernel) (by decide +kernel))) (by decide +kernel)) rfl rfl rfl (hts _ (List.mem_cons_of_mem _ (lw_in 394 (by decide +kernel) (by decide +kernel)))) (hts _ (List.mem_cons_of_mem _ (lw_in 2908 (by decide +kernel) (by decide +kernel)))) ⟨by decide, by decide, by decide +kernel⟩ ⟨Nat.le_of_ble_eq_true rfl, Nat.le_of_ble_eq_true rfl⟩, hts _ (List.mem_cons_of_mem _ (lw_in 2081 (by decide +kernel) (by decide +kernel))), hts _ (List.mem_cons_of_mem _ (lw_in 2082 (by decide +kernel) (by decide +kernel)))⟩ ⟨lw_PX.blind, va_recv hK hP (ci := 3) (q0 := 0) rfl rfl, fun U hU hW => ⟨rfl, by rw [hU], by rw [hU]; exact hP, va_K.moved hW.alike hK, hE.go hW hU va_S.rf (fun _ h => h)⟩⟩ rfl rfl hl.1 rfl (lv_room (Nat.le_of_ble_eq_true rfl)) ld_X11_resultByte_6 ⟨Nat.le_of_ble_eq_true rfl, Nat.le_of_ble_eq_true rfl⟩) va_S.rf (fun q _ h => h) (fun q h => h) (fun r_6 u t H1 locs1 ht hvm hw _ hz1 hk1 hS => ?_)
    obtain rfl : r_6 = 0 := hw
    refine lv_icmp_lt (tgt := 20) hx hb ld_X11_resultByte_9 (by decide) (fun z => absurd z c_1) (fun _ => ?_)
    exact vx_throw0 (own := "TableTongue") (cls := "java/lang/IndexOutOfBoundsException") (names := lw_sup) (ik := 109) (ic := 111) (A := fun q => s.heap.size ≤ q) hx hb hst hown (by decide +kernel) (by decide +kernel) (hts _ (List.mem_cons_of_mem _ (lw_in 2123 (by decide +kernel) (by decide +kernel)))) (hts _ (List.mem_cons_of_mem _ (lw_in 424 (by decide +kernel) (by decide +kernel)))) (lw_hat hts (fun w hw => List.mem_cons_of_mem _ hw) hE lw_at111 lw_ag111) (lw_good3 lw_ag111) hE.1 hE.2.1 hS (hl.1.trans hml.symm) ld_X11_resultByte_12 ld_X11_resultByte_15 ld_X11_resultByte_16 ld_X11_resultByte_19 (fun x hx9 => (htab x hx9).elim) (Nat.le_of_ble_eq_true rfl) (Nat.le_of_ble_eq_true rfl) (Nat.le_of_ble_eq_true rfl) (Nat.le_of_ble_eq_true rfl) hlocks (fun t _ h1 h2 => ⟨(), trivial, rfl, Nat.le_trans hS.1 h1, fun q hq hn => (h2 q (Nat.lt_of_lt_of_le hq hS.1)).trans (hS.2.1 q hq hn)⟩) (fun z h9 => hS.2.2 z h9) (Nat.le_of_ble_eq_true rfl) (Nat.le_of_ble_eq_true rfl)
