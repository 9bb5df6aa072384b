/-! ===== 47: the class's face where nothing is compiled, whatever its text and its fault (by wip/whole2/law47.py) ===== -/
set_option maxHeartbeats 4000000 in
set_option maxRecDepth 100000 in
theorem ut_X11_function (l : Launch) (hst : l.stackTraces = false) (D : va_G) (q0 sz : Nat) (fs : List Value) {zs fp fl : Int32} (hf8 : fs[8]? = some (.int zs)) (hf9 : fs[9]? = some (.int 0)) (hf10 : fs[10]? = some (.int fp)) (hf11 : fs[11]? = some (.int fl)) (a1 : Int32) (a2 : Int32)  : vx_Met l ly_X11_function (lw_w ly_X11_function prog_1_method_6_code 3 (some .int)) ({ frames := 8, cells := 1, slots := 6, locals := 150 }) (lw_PX D q0 fs sz [.ref q0, .int a1, .int a2]) (va_Qi (S := Unit) (fun _ _ => False) (fun _ _ => True) (fun q => sz ≤ q)) (lw_XX "java/lang/IndexOutOfBoundsException" sz) 1 6 (fun q => sz ≤ q) := by
  refine vx_ofW (cc := prog_1_method_6_code) (maxL := 3) (ret := (some .int)) (by decide) rfl ?_
  intro p e s m args below meth c s₁ B hml htab hv
  obtain ⟨rfl, hsz, hP, hK, hE⟩ := hv
  subst hsz
  have hx := B.exec
  have hb := B.bytes
  have hr := B.returns
  have hts := atoms_spec (ws := lw_w ly_X11_function prog_1_method_6_code 3 (some .int)) B.pre
  have hin : ∀ w ∈ u_ws "TableTongue" al_TX11 12, w ∈ lw_w ly_X11_function prog_1_method_6_code 3 (some .int) := fun w hw => List.mem_cons_of_mem _ (lw_u (ci := 3) rfl w hw)
  have hown : s.vm.findClass "TableTongue" = some m.cls := findClass_of_methodNamed B.named
  have hlocks := B.notSynchronized
  have hS : va_S (fun q => s.heap.size ≤ q) s.heap s.heap [] := va_S.rf
  have hl := lv_entry ([.ref q0, .int a1, .int a2]) (n := 3) (Nat.le_of_ble_eq_true rfl)
  rw [lg_entry_eq]
  generalize (lg_sl ([.ref q0, .int a1, .int a2]) ++ List.replicate (3 - (lg_sl ([.ref q0, .int a1, .int a2])).length) Slot.unset).toArray = ls at hl ⊢
  have hl : lv_has ls 3 [(0, .ref q0), (1, .int a1), (2, .int a2)] := hl
  refine lv_aload_n hx hb ld_X11_function_0 rfl (lv_at hl 0 rfl) ?_
  refine va_get (D := D) (ci := 3) (v := .int 0) (C := "TableTongue") (T := al_TX11) (N := 12) hx hb hts hin hown hK hP 0 rfl rfl 9 (by decide) (hts (.fieldLink "TableTongue" 99 "TableTongue" "compiled" "Z") (List.mem_cons_of_mem _ (lw_in 1586 (by decide +kernel) (by decide +kernel)))) (fun _ h9 => h9) hf9 ld_X11_function_1 ?_
  refine lv_if_eq (tgt := 31) hx hb ld_X11_function_4 (by decide) (fun _ => ?_) (fun z => absurd z (by decide))
  exact vx_throw0 (own := "TableTongue") (cls := "java/lang/IndexOutOfBoundsException") (names := lw_sup) (ik := 109) (ic := 111) (A := fun q => s.heap.size ≤ q) hx hb hst hown (by decide +kernel) (by decide +kernel) (hts _ (List.mem_cons_of_mem _ (lw_in 2123 (by decide +kernel) (by decide +kernel)))) (hts _ (List.mem_cons_of_mem _ (lw_in 424 (by decide +kernel) (by decide +kernel)))) (lw_hat hts (fun w hw => List.mem_cons_of_mem _ hw) hE lw_at111 lw_ag111) (lw_good3 lw_ag111) hE.1 hE.2.1 hS (hl.1.trans hml.symm) ld_X11_function_31 ld_X11_function_34 ld_X11_function_35 ld_X11_function_38 (fun x hx9 => (htab x hx9).elim) (Nat.le_of_ble_eq_true rfl) (Nat.le_of_ble_eq_true rfl) (Nat.le_of_ble_eq_true rfl) (Nat.le_of_ble_eq_true rfl) hlocks (fun t _ h1 h2 => ⟨(), trivial, rfl, Nat.le_trans hS.1 h1, fun q hq hn => (h2 q (Nat.lt_of_lt_of_le hq hS.1)).trans (hS.2.1 q hq hn)⟩) (fun z h9 => hS.2.2 z h9) (Nat.le_of_ble_eq_true rfl) (Nat.le_of_ble_eq_true rfl)
set_option maxHeartbeats 4000000 in
set_option maxRecDepth 100000 in
theorem ut_X11_load (l : Launch) (hst : l.stackTraces = false) (D : va_G) (q0 sz : Nat) (fs : List Value) {zs fp fl : Int32} (hf8 : fs[8]? = some (.int zs)) (hf9 : fs[9]? = some (.int 0)) (hf10 : fs[10]? = some (.int fp)) (hf11 : fs[11]? = some (.int fl))   : vx_Met l ly_X11_load (lw_w ly_X11_load prog_1_method_7_code 1 none) ({ frames := 8, cells := 1, slots := 6, locals := 150 }) (lw_PX D q0 fs sz [.ref q0]) (va_Qv (S := Unit) (fun _ => False) (fun _ _ => True) (fun q => sz ≤ q)) (lw_XX "java/lang/IllegalStateException" sz) 1 6 (fun q => sz ≤ q) := by
  refine vx_ofW (cc := prog_1_method_7_code) (maxL := 1) (ret := none) (by decide) rfl ?_
  intro p e s m args below meth c s₁ B hml htab hv
  obtain ⟨rfl, hsz, hP, hK, hE⟩ := hv
  subst hsz
  have hx := B.exec
  have hb := B.bytes
  have hr := B.returns
  have hts := atoms_spec (ws := lw_w ly_X11_load prog_1_method_7_code 1 none) B.pre
  have hin : ∀ w ∈ u_ws "TableTongue" al_TX11 12, w ∈ lw_w ly_X11_load prog_1_method_7_code 1 none := fun w hw => List.mem_cons_of_mem _ (lw_u (ci := 3) rfl w hw)
  have hown : s.vm.findClass "TableTongue" = some m.cls := findClass_of_methodNamed B.named
  have hlocks := B.notSynchronized
  have hS : va_S (fun q => s.heap.size ≤ q) s.heap s.heap [] := va_S.rf
  have hl := lv_entry ([.ref q0]) (n := 1) (Nat.le_of_ble_eq_true rfl)
  rw [lg_entry_eq]
  generalize (lg_sl ([.ref q0]) ++ List.replicate (1 - (lg_sl ([.ref q0])).length) Slot.unset).toArray = ls at hl ⊢
  have hl : lv_has ls 1 [(0, .ref q0)] := hl
  refine lv_aload_n hx hb ld_X11_load_0 rfl (lv_at hl 0 rfl) ?_
  refine va_get (D := D) (ci := 3) (v := .int 0) (C := "TableTongue") (T := al_TX11) (N := 12) hx hb hts hin hown hK hP 0 rfl rfl 9 (by decide) (hts (.fieldLink "TableTongue" 99 "TableTongue" "compiled" "Z") (List.mem_cons_of_mem _ (lw_in 1586 (by decide +kernel) (by decide +kernel)))) (fun _ h9 => h9) hf9 ld_X11_load_1 ?_
  refine lv_if_ne (tgt := 15) hx hb ld_X11_load_4 (by decide) (fun z => absurd z (by decide)) (fun _ => ?_)
  exact vx_throw0 (own := "TableTongue") (cls := "java/lang/IllegalStateException") (names := lw_sup) (ik := 126) (ic := 128) (A := fun q => s.heap.size ≤ q) hx hb hst hown (by decide +kernel) (by decide +kernel) (hts _ (List.mem_cons_of_mem _ (lw_in 2153 (by decide +kernel) (by decide +kernel)))) (hts _ (List.mem_cons_of_mem _ (lw_in 425 (by decide +kernel) (by decide +kernel)))) (lw_hat hts (fun w hw => List.mem_cons_of_mem _ hw) hE lw_at128 lw_ag128) (lw_good3 lw_ag128) hE.1 hE.2.1 hS (hl.1.trans hml.symm) ld_X11_load_7 ld_X11_load_10 ld_X11_load_11 ld_X11_load_14 (fun x hx9 => (htab x hx9).elim) (Nat.le_of_ble_eq_true rfl) (Nat.le_of_ble_eq_true rfl) (Nat.le_of_ble_eq_true rfl) (Nat.le_of_ble_eq_true rfl) hlocks (fun t _ h1 h2 => ⟨(), trivial, rfl, Nat.le_trans hS.1 h1, fun q hq hn => (h2 q (Nat.lt_of_lt_of_le hq hS.1)).trans (hS.2.1 q hq hn)⟩) (fun z h9 => hS.2.2 z h9) (Nat.le_of_ble_eq_true rfl) (Nat.le_of_ble_eq_true rfl)
set_option maxHeartbeats 4000000 in
set_option maxRecDepth 100000 in
theorem ut_X11_run (l : Launch) (hst : l.stackTraces = false) (D : va_G) (q0 sz : Nat) (fs : List Value) {zs fp fl : Int32} (hf8 : fs[8]? = some (.int zs)) (hf9 : fs[9]? = some (.int 0)) (hf10 : fs[10]? = some (.int fp)) (hf11 : fs[11]? = some (.int fl)) (a1 : Int32)  : vx_Met l ly_X11_run (lw_w ly_X11_run prog_1_method_8_code 2 (some .int)) ({ frames := 8, cells := 1, slots := 6, locals := 150 }) (lw_PX D q0 fs sz [.ref q0, .int a1]) (va_Qi (S := Unit) (fun _ _ => False) (fun _ _ => True) (fun q => sz ≤ q)) (lw_XX "java/lang/IllegalStateException" sz) 1 6 (fun q => sz ≤ q) := by
  refine vx_ofW (cc := prog_1_method_8_code) (maxL := 2) (ret := (some .int)) (by decide) rfl ?_
  intro p e s m args below meth c s₁ B hml htab hv
  obtain ⟨rfl, hsz, hP, hK, hE⟩ := hv
  subst hsz
  have hx := B.exec
  have hb := B.bytes
  have hr := B.returns
  have hts := atoms_spec (ws := lw_w ly_X11_run prog_1_method_8_code 2 (some .int)) B.pre
  have hin : ∀ w ∈ u_ws "TableTongue" al_TX11 12, w ∈ lw_w ly_X11_run prog_1_method_8_code 2 (some .int) := fun w hw => List.mem_cons_of_mem _ (lw_u (ci := 3) rfl w hw)
  have hown : s.vm.findClass "TableTongue" = some m.cls := findClass_of_methodNamed B.named
  have hlocks := B.notSynchronized
  have hS : va_S (fun q => s.heap.size ≤ q) s.heap s.heap [] := va_S.rf
  have hl := lv_entry ([.ref q0, .int a1]) (n := 2) (Nat.le_of_ble_eq_true rfl)
  rw [lg_entry_eq]
  generalize (lg_sl ([.ref q0, .int a1]) ++ List.replicate (2 - (lg_sl ([.ref q0, .int a1])).length) Slot.unset).toArray = ls at hl ⊢
  have hl : lv_has ls 2 [(0, .ref q0), (1, .int a1)] := hl
  refine lv_aload_n hx hb ld_X11_run_0 rfl (lv_at hl 0 rfl) ?_
  refine va_get (D := D) (ci := 3) (v := .int 0) (C := "TableTongue") (T := al_TX11) (N := 12) hx hb hts hin hown hK hP 0 rfl rfl 9 (by decide) (hts (.fieldLink "TableTongue" 99 "TableTongue" "compiled" "Z") (List.mem_cons_of_mem _ (lw_in 1586 (by decide +kernel) (by decide +kernel)))) (fun _ h9 => h9) hf9 ld_X11_run_1 ?_
  refine lv_if_ne (tgt := 15) hx hb ld_X11_run_4 (by decide) (fun z => absurd z (by decide)) (fun _ => ?_)
  exact vx_throw0 (own := "TableTongue") (cls := "java/lang/IllegalStateException") (names := lw_sup) (ik := 126) (ic := 128) (A := fun q => s.heap.size ≤ q) hx hb hst hown (by decide +kernel) (by decide +kernel) (hts _ (List.mem_cons_of_mem _ (lw_in 2153 (by decide +kernel) (by decide +kernel)))) (hts _ (List.mem_cons_of_mem _ (lw_in 425 (by decide +kernel) (by decide +kernel)))) (lw_hat hts (fun w hw => List.mem_cons_of_mem _ hw) hE lw_at128 lw_ag128) (lw_good3 lw_ag128) hE.1 hE.2.1 hS (hl.1.trans hml.symm) ld_X11_run_7 ld_X11_run_10 ld_X11_run_11 ld_X11_run_14 (fun x hx9 => (htab x hx9).elim) (Nat.le_of_ble_eq_true rfl) (Nat.le_of_ble_eq_true rfl) (Nat.le_of_ble_eq_true rfl) (Nat.le_of_ble_eq_true rfl) hlocks (fun t _ h1 h2 => ⟨(), trivial, rfl, Nat.le_trans hS.1 h1, fun q hq hn => (h2 q (Nat.lt_of_lt_of_le hq hS.1)).trans (hS.2.1 q hq hn)⟩) (fun z h9 => hS.2.2 z h9) (Nat.le_of_ble_eq_true rfl) (Nat.le_of_ble_eq_true rfl)
set_option maxHeartbeats 4000000 in
set_option maxRecDepth 100000 in
theorem ut_X11_output (l : Launch) (hst : l.stackTraces = false) (D : va_G) (q0 sz : Nat) (fs : List Value) {zs fp fl : Int32} (hf8 : fs[8]? = some (.int zs)) (hf9 : fs[9]? = some (.int 0)) (hf10 : fs[10]? = some (.int fp)) (hf11 : fs[11]? = some (.int fl)) (a1 : Int32)  : vx_Met l ly_X11_output (lw_w ly_X11_output prog_1_method_14_code 2 (some .int)) ({ frames := 8, cells := 1, slots := 6, locals := 150 }) (lw_PX D q0 fs sz [.ref q0, .int a1]) (va_Qi (S := Unit) (fun _ _ => False) (fun _ _ => True) (fun q => sz ≤ q)) (lw_XX "java/lang/IndexOutOfBoundsException" sz) 1 6 (fun q => sz ≤ q) := by
  refine vx_ofW (cc := prog_1_method_14_code) (maxL := 2) (ret := (some .int)) (by decide) rfl ?_
  intro p e s m args below meth c s₁ B hml htab hv
  obtain ⟨rfl, hsz, hP, hK, hE⟩ := hv
  subst hsz
  have hx := B.exec
  have hb := B.bytes
  have hr := B.returns
  have hts := atoms_spec (ws := lw_w ly_X11_output prog_1_method_14_code 2 (some .int)) B.pre
  have hin : ∀ w ∈ u_ws "TableTongue" al_TX11 12, w ∈ lw_w ly_X11_output prog_1_method_14_code 2 (some .int) := fun w hw => List.mem_cons_of_mem _ (lw_u (ci := 3) rfl w hw)
  have hown : s.vm.findClass "TableTongue" = some m.cls := findClass_of_methodNamed B.named
  have hlocks := B.notSynchronized
  have hS : va_S (fun q => s.heap.size ≤ q) s.heap s.heap [] := va_S.rf
  have hl := lv_entry ([.ref q0, .int a1]) (n := 2) (Nat.le_of_ble_eq_true rfl)
  rw [lg_entry_eq]
  generalize (lg_sl ([.ref q0, .int a1]) ++ List.replicate (2 - (lg_sl ([.ref q0, .int a1])).length) Slot.unset).toArray = ls at hl ⊢
  have hl : lv_has ls 2 [(0, .ref q0), (1, .int a1)] := hl
  refine lv_aload_n hx hb ld_X11_output_0 rfl (lv_at hl 0 rfl) ?_
  refine va_get (D := D) (ci := 3) (v := .int 0) (C := "TableTongue") (T := al_TX11) (N := 12) hx hb hts hin hown hK hP 0 rfl rfl 9 (by decide) (hts (.fieldLink "TableTongue" 99 "TableTongue" "compiled" "Z") (List.mem_cons_of_mem _ (lw_in 1586 (by decide +kernel) (by decide +kernel)))) (fun _ h9 => h9) hf9 ld_X11_output_1 ?_
  refine lv_if_eq (tgt := 33) hx hb ld_X11_output_4 (by decide) (fun _ => ?_) (fun z => absurd z (by decide))
  exact vx_throw0 (own := "TableTongue") (cls := "java/lang/IndexOutOfBoundsException") (names := lw_sup) (ik := 109) (ic := 111) (A := fun q => s.heap.size ≤ q) hx hb hst hown (by decide +kernel) (by decide +kernel) (hts _ (List.mem_cons_of_mem _ (lw_in 2123 (by decide +kernel) (by decide +kernel)))) (hts _ (List.mem_cons_of_mem _ (lw_in 424 (by decide +kernel) (by decide +kernel)))) (lw_hat hts (fun w hw => List.mem_cons_of_mem _ hw) hE lw_at111 lw_ag111) (lw_good3 lw_ag111) hE.1 hE.2.1 hS (hl.1.trans hml.symm) ld_X11_output_33 ld_X11_output_36 ld_X11_output_37 ld_X11_output_40 (fun x hx9 => (htab x hx9).elim) (Nat.le_of_ble_eq_true rfl) (Nat.le_of_ble_eq_true rfl) (Nat.le_of_ble_eq_true rfl) (Nat.le_of_ble_eq_true rfl) hlocks (fun t _ h1 h2 => ⟨(), trivial, rfl, Nat.le_trans hS.1 h1, fun q hq hn => (h2 q (Nat.lt_of_lt_of_le hq hS.1)).trans (hS.2.1 q hq hn)⟩) (fun z h9 => hS.2.2 z h9) (Nat.le_of_ble_eq_true rfl) (Nat.le_of_ble_eq_true rfl)
set_option maxHeartbeats 4000000 in
set_option maxRecDepth 100000 in
theorem ut_X11_object (l : Launch) (hst : l.stackTraces = false) (D : va_G) (q0 sz : Nat) (fs : List Value) {zs fp fl : Int32} (hf8 : fs[8]? = some (.int zs)) (hf9 : fs[9]? = some (.int 0)) (hf10 : fs[10]? = some (.int fp)) (hf11 : fs[11]? = some (.int fl)) (a1 : Int32) (a2 : Int32)  : vx_Met l ly_X11_object (lw_w ly_X11_object prog_1_method_16_code 4 (some .int)) ({ frames := 8, cells := 1, slots := 6, locals := 150 }) (lw_PX D q0 fs sz [.ref q0, .int a1, .int a2]) (va_Qi (S := Unit) (fun _ _ => False) (fun _ _ => True) (fun q => sz ≤ q)) (lw_XX "java/lang/IndexOutOfBoundsException" sz) 1 6 (fun q => sz ≤ q) := by
  refine vx_ofW (cc := prog_1_method_16_code) (maxL := 4) (ret := (some .int)) (by decide) rfl ?_
  intro p e s m args below meth c s₁ B hml htab hv
  obtain ⟨rfl, hsz, hP, hK, hE⟩ := hv
  subst hsz
  have hx := B.exec
  have hb := B.bytes
  have hr := B.returns
  have hts := atoms_spec (ws := lw_w ly_X11_object prog_1_method_16_code 4 (some .int)) B.pre
  have hin : ∀ w ∈ u_ws "TableTongue" al_TX11 12, w ∈ lw_w ly_X11_object prog_1_method_16_code 4 (some .int) := fun w hw => List.mem_cons_of_mem _ (lw_u (ci := 3) rfl w hw)
  have hown : s.vm.findClass "TableTongue" = some m.cls := findClass_of_methodNamed B.named
  have hlocks := B.notSynchronized
  have hS : va_S (fun q => s.heap.size ≤ q) s.heap s.heap [] := va_S.rf
  have hl := lv_entry ([.ref q0, .int a1, .int a2]) (n := 4) (Nat.le_of_ble_eq_true rfl)
  rw [lg_entry_eq]
  generalize (lg_sl ([.ref q0, .int a1, .int a2]) ++ List.replicate (4 - (lg_sl ([.ref q0, .int a1, .int a2])).length) Slot.unset).toArray = ls at hl ⊢
  have hl : lv_has ls 4 [(0, .ref q0), (1, .int a1), (2, .int a2)] := hl
  refine lv_aload_n hx hb ld_X11_object_0 rfl (lv_at hl 0 rfl) ?_
  refine va_get (D := D) (ci := 3) (v := .int 0) (C := "TableTongue") (T := al_TX11) (N := 12) hx hb hts hin hown hK hP 0 rfl rfl 9 (by decide) (hts (.fieldLink "TableTongue" 99 "TableTongue" "compiled" "Z") (List.mem_cons_of_mem _ (lw_in 1586 (by decide +kernel) (by decide +kernel)))) (fun _ h9 => h9) hf9 ld_X11_object_1 ?_
  refine lv_if_eq (tgt := 32) hx hb ld_X11_object_4 (by decide) (fun _ => ?_) (fun z => absurd z (by decide))
  exact vx_throw0 (own := "TableTongue") (cls := "java/lang/IndexOutOfBoundsException") (names := lw_sup) (ik := 109) (ic := 111) (A := fun q => s.heap.size ≤ q) hx hb hst hown (by decide +kernel) (by decide +kernel) (hts _ (List.mem_cons_of_mem _ (lw_in 2123 (by decide +kernel) (by decide +kernel)))) (hts _ (List.mem_cons_of_mem _ (lw_in 424 (by decide +kernel) (by decide +kernel)))) (lw_hat hts (fun w hw => List.mem_cons_of_mem _ hw) hE lw_at111 lw_ag111) (lw_good3 lw_ag111) hE.1 hE.2.1 hS (hl.1.trans hml.symm) ld_X11_object_32 ld_X11_object_35 ld_X11_object_36 ld_X11_object_39 (fun x hx9 => (htab x hx9).elim) (Nat.le_of_ble_eq_true rfl) (Nat.le_of_ble_eq_true rfl) (Nat.le_of_ble_eq_true rfl) (Nat.le_of_ble_eq_true rfl) hlocks (fun t _ h1 h2 => ⟨(), trivial, rfl, Nat.le_trans hS.1 h1, fun q hq hn => (h2 q (Nat.lt_of_lt_of_le hq hS.1)).trans (hS.2.1 q hq hn)⟩) (fun z h9 => hS.2.2 z h9) (Nat.le_of_ble_eq_true rfl) (Nat.le_of_ble_eq_true rfl)
set_option maxHeartbeats 4000000 in
set_option maxRecDepth 100000 in
theorem ut_X11_place (l : Launch) (hst : l.stackTraces = false) (D : va_G) (q0 sz : Nat) (fs : List Value) {zs fp fl : Int32} (hf8 : fs[8]? = some (.int zs)) (hf9 : fs[9]? = some (.int 0)) (hf10 : fs[10]? = some (.int fp)) (hf11 : fs[11]? = some (.int fl)) (a1 : Int32) (a2 : Int32) (a3 : Int32)  : vx_Met l ly_X11_place (lw_w ly_X11_place prog_1_method_17_code 5 (some .long)) ({ frames := 8, cells := 1, slots := 6, locals := 150 }) (lw_PX D q0 fs sz [.ref q0, .int a1, .int a2, .int a3]) (va_Ql (S := Unit) (fun _ _ => False) (fun _ _ => True) (fun q => sz ≤ q)) (lw_XX "java/lang/IndexOutOfBoundsException" sz) 1 6 (fun q => sz ≤ q) := by
  refine vx_ofW (cc := prog_1_method_17_code) (maxL := 5) (ret := (some .long)) (by decide) rfl ?_
  intro p e s m args below meth c s₁ B hml htab hv
  obtain ⟨rfl, hsz, hP, hK, hE⟩ := hv
  subst hsz
  have hx := B.exec
  have hb := B.bytes
  have hr := B.returns
  have hts := atoms_spec (ws := lw_w ly_X11_place prog_1_method_17_code 5 (some .long)) B.pre
  have hin : ∀ w ∈ u_ws "TableTongue" al_TX11 12, w ∈ lw_w ly_X11_place prog_1_method_17_code 5 (some .long) := fun w hw => List.mem_cons_of_mem _ (lw_u (ci := 3) rfl w hw)
  have hown : s.vm.findClass "TableTongue" = some m.cls := findClass_of_methodNamed B.named
  have hlocks := B.notSynchronized
  have hS : va_S (fun q => s.heap.size ≤ q) s.heap s.heap [] := va_S.rf
  have hl := lv_entry ([.ref q0, .int a1, .int a2, .int a3]) (n := 5) (Nat.le_of_ble_eq_true rfl)
  rw [lg_entry_eq]
  generalize (lg_sl ([.ref q0, .int a1, .int a2, .int a3]) ++ List.replicate (5 - (lg_sl ([.ref q0, .int a1, .int a2, .int a3])).length) Slot.unset).toArray = ls at hl ⊢
  have hl : lv_has ls 5 [(0, .ref q0), (1, .int a1), (2, .int a2), (3, .int a3)] := hl
  refine lv_aload_n hx hb ld_X11_place_0 rfl (lv_at hl 0 rfl) ?_
  refine va_get (D := D) (ci := 3) (v := .int 0) (C := "TableTongue") (T := al_TX11) (N := 12) hx hb hts hin hown hK hP 0 rfl rfl 9 (by decide) (hts (.fieldLink "TableTongue" 99 "TableTongue" "compiled" "Z") (List.mem_cons_of_mem _ (lw_in 1586 (by decide +kernel) (by decide +kernel)))) (fun _ h9 => h9) hf9 ld_X11_place_1 ?_
  refine lv_if_eq (tgt := 40) hx hb ld_X11_place_4 (by decide) (fun _ => ?_) (fun z => absurd z (by decide))
  exact vx_throw0 (own := "TableTongue") (cls := "java/lang/IndexOutOfBoundsException") (names := lw_sup) (ik := 109) (ic := 111) (A := fun q => s.heap.size ≤ q) hx hb hst hown (by decide +kernel) (by decide +kernel) (hts _ (List.mem_cons_of_mem _ (lw_in 2123 (by decide +kernel) (by decide +kernel)))) (hts _ (List.mem_cons_of_mem _ (lw_in 424 (by decide +kernel) (by decide +kernel)))) (lw_hat hts (fun w hw => List.mem_cons_of_mem _ hw) hE lw_at111 lw_ag111) (lw_good3 lw_ag111) hE.1 hE.2.1 hS (hl.1.trans hml.symm) ld_X11_place_40 ld_X11_place_43 ld_X11_place_44 ld_X11_place_47 (fun x hx9 => (htab x hx9).elim) (Nat.le_of_ble_eq_true rfl) (Nat.le_of_ble_eq_true rfl) (Nat.le_of_ble_eq_true rfl) (Nat.le_of_ble_eq_true rfl) hlocks (fun t _ h1 h2 => ⟨(), trivial, rfl, Nat.le_trans hS.1 h1, fun q hq hn => (h2 q (Nat.lt_of_lt_of_le hq hS.1)).trans (hS.2.1 q hq hn)⟩) (fun z h9 => hS.2.2 z h9) (Nat.le_of_ble_eq_true rfl) (Nat.le_of_ble_eq_true rfl)
set_option maxHeartbeats 4000000 in
set_option maxRecDepth 100000 in
theorem ut_X11_fault (l : Launch) (hst : l.stackTraces = false) (D : va_G) (q0 sz : Nat) (fs : List Value) {zs fp fl cv : Int32} (hf8 : fs[8]? = some (.int zs)) (hf9 : fs[9]? = some (.int cv)) (hf10 : fs[10]? = some (.int fp)) (hf11 : fs[11]? = some (.int fl)) (a1 : Int32) (hbad : a1 < 0 ∨ ¬ a1 ≤ 1) : vx_Met l ly_X11_fault (lw_w ly_X11_fault prog_1_method_5_code 2 (some .int)) ({ frames := 8, cells := 1, slots := 6, locals := 150 }) (lw_PX D q0 fs sz [.ref q0, .int a1]) (va_Qi (S := Unit) (fun _ _ => False) (fun _ _ => True) (fun q => sz ≤ q)) (lw_XX "java/lang/IndexOutOfBoundsException" sz) 1 6 (fun q => sz ≤ q) := by
  refine vx_ofW (cc := prog_1_method_5_code) (maxL := 2) (ret := (some .int)) (by decide) rfl ?_
  intro p e s m args below meth c s₁ B hml htab hv
  obtain ⟨rfl, hsz, hP, hK, hE⟩ := hv
  subst hsz
  have hx := B.exec
  have hb := B.bytes
  have hr := B.returns
  have hts := atoms_spec (ws := lw_w ly_X11_fault prog_1_method_5_code 2 (some .int)) B.pre
  have hin : ∀ w ∈ u_ws "TableTongue" al_TX11 12, w ∈ lw_w ly_X11_fault prog_1_method_5_code 2 (some .int) := fun w hw => List.mem_cons_of_mem _ (lw_u (ci := 3) rfl w hw)
  have hown : s.vm.findClass "TableTongue" = some m.cls := findClass_of_methodNamed B.named
  have hlocks := B.notSynchronized
  have hS : va_S (fun q => s.heap.size ≤ q) s.heap s.heap [] := va_S.rf
  have hl := lv_entry ([.ref q0, .int a1]) (n := 2) (Nat.le_of_ble_eq_true rfl)
  rw [lg_entry_eq]
  generalize (lg_sl ([.ref q0, .int a1]) ++ List.replicate (2 - (lg_sl ([.ref q0, .int a1])).length) Slot.unset).toArray = ls at hl ⊢
  have hl : lv_has ls 2 [(0, .ref q0), (1, .int a1)] := hl
  refine lv_iload_n hx hb ld_X11_fault_0 rfl (lv_at hl 1 rfl) ?_
  refine lv_if_lt (tgt := 9) hx hb ld_X11_fault_1 (by decide) (fun c_1 => ?_) (fun c_1 => ?_)
  · skip
    exact vx_throw0 (own := "TableTongue") (cls := "java/lang/IndexOutOfBoundsException") (names := lw_sup) (ik := 109) (ic := 111) (A := fun q => s.heap.size ≤ q) hx hb hst hown (by decide +kernel) (by decide +kernel) (hts _ (List.mem_cons_of_mem _ (lw_in 2123 (by decide +kernel) (by decide +kernel)))) (hts _ (List.mem_cons_of_mem _ (lw_in 424 (by decide +kernel) (by decide +kernel)))) (lw_hat hts (fun w hw => List.mem_cons_of_mem _ hw) hE lw_at111 lw_ag111) (lw_good3 lw_ag111) hE.1 hE.2.1 hS (hl.1.trans hml.symm) ld_X11_fault_9 ld_X11_fault_12 ld_X11_fault_13 ld_X11_fault_16 (fun x hx9 => (htab x hx9).elim) (Nat.le_of_ble_eq_true rfl) (Nat.le_of_ble_eq_true rfl) (Nat.le_of_ble_eq_true rfl) (Nat.le_of_ble_eq_true rfl) hlocks (fun t _ h1 h2 => ⟨(), trivial, rfl, Nat.le_trans hS.1 h1, fun q hq hn => (h2 q (Nat.lt_of_lt_of_le hq hS.1)).trans (hS.2.1 q hq hn)⟩) (fun z h9 => hS.2.2 z h9) (Nat.le_of_ble_eq_true rfl) (Nat.le_of_ble_eq_true rfl)
  · skip
    refine lv_iload_n hx hb ld_X11_fault_4 rfl (lv_at hl 1 rfl) ?_
    refine lv_iconst (v := 1) hx hb ld_X11_fault_5 (by decide) ?_
    refine lv_icmp_le (tgt := 17) hx hb ld_X11_fault_6 (by decide) (fun z => absurd z (hbad.resolve_left c_1)) (fun _ => ?_)
    exact vx_throw0 (own := "TableTongue") (cls := "java/lang/IndexOutOfBoundsException") (names := lw_sup) (ik := 109) (ic := 111) (A := fun q => s.heap.size ≤ q) hx hb hst hown (by decide +kernel) (by decide +kernel) (hts _ (List.mem_cons_of_mem _ (lw_in 2123 (by decide +kernel) (by decide +kernel)))) (hts _ (List.mem_cons_of_mem _ (lw_in 424 (by decide +kernel) (by decide +kernel)))) (lw_hat hts (fun w hw => List.mem_cons_of_mem _ hw) hE lw_at111 lw_ag111) (lw_good3 lw_ag111) hE.1 hE.2.1 hS (hl.1.trans hml.symm) ld_X11_fault_9 ld_X11_fault_12 ld_X11_fault_13 ld_X11_fault_16 (fun x hx9 => (htab x hx9).elim) (Nat.le_of_ble_eq_true rfl) (Nat.le_of_ble_eq_true rfl) (Nat.le_of_ble_eq_true rfl) (Nat.le_of_ble_eq_true rfl) hlocks (fun t _ h1 h2 => ⟨(), trivial, rfl, Nat.le_trans hS.1 h1, fun q hq hn => (h2 q (Nat.lt_of_lt_of_le hq hS.1)).trans (hS.2.1 q hq hn)⟩) (fun z h9 => hS.2.2 z h9) (Nat.le_of_ble_eq_true rfl) (Nat.le_of_ble_eq_true rfl)
set_option maxHeartbeats 4000000 in
set_option maxRecDepth 100000 in
theorem ut_X11_count (l : Launch) (hst : l.stackTraces = false) (D : va_G) (q0 sz : Nat) (fs : List Value) {zs fp fl : Int32} (hf8 : fs[8]? = some (.int zs)) (hf9 : fs[9]? = some (.int 0)) (hf10 : fs[10]? = some (.int fp)) (hf11 : fs[11]? = some (.int fl)) (a1 : Int32) (hbad : a1 < 0 ∨ ¬ a1 ≤ 5) : vx_Met l ly_X11_count (lw_w ly_X11_count prog_1_method_15_code 2 (some .int)) ({ frames := 8, cells := 1, slots := 6, locals := 150 }) (lw_PX D q0 fs sz [.ref q0, .int a1]) (va_Qi (S := Unit) (fun _ _ => False) (fun _ _ => True) (fun q => sz ≤ q)) (lw_XX "java/lang/IndexOutOfBoundsException" sz) 1 6 (fun q => sz ≤ q) := by
  refine vx_ofW (cc := prog_1_method_15_code) (maxL := 2) (ret := (some .int)) (by decide) rfl ?_
  intro p e s m args below meth c s₁ B hml htab hv
  obtain ⟨rfl, hsz, hP, hK, hE⟩ := hv
  subst hsz
  have hx := B.exec
  have hb := B.bytes
  have hr := B.returns
  have hts := atoms_spec (ws := lw_w ly_X11_count prog_1_method_15_code 2 (some .int)) B.pre
  have hin : ∀ w ∈ u_ws "TableTongue" al_TX11 12, w ∈ lw_w ly_X11_count prog_1_method_15_code 2 (some .int) := fun w hw => List.mem_cons_of_mem _ (lw_u (ci := 3) rfl w hw)
  have hown : s.vm.findClass "TableTongue" = some m.cls := findClass_of_methodNamed B.named
  have hlocks := B.notSynchronized
  have hS : va_S (fun q => s.heap.size ≤ q) s.heap s.heap [] := va_S.rf
  have hl := lv_entry ([.ref q0, .int a1]) (n := 2) (Nat.le_of_ble_eq_true rfl)
  rw [lg_entry_eq]
  generalize (lg_sl ([.ref q0, .int a1]) ++ List.replicate (2 - (lg_sl ([.ref q0, .int a1])).length) Slot.unset).toArray = ls at hl ⊢
  have hl : lv_has ls 2 [(0, .ref q0), (1, .int a1)] := hl
  refine lv_iload_n hx hb ld_X11_count_0 rfl (lv_at hl 1 rfl) ?_
  refine lv_if_lt (tgt := 9) hx hb ld_X11_count_1 (by decide) (fun c_1 => ?_) (fun c_1 => ?_)
  · skip
    exact vx_throw0 (own := "TableTongue") (cls := "java/lang/IndexOutOfBoundsException") (names := lw_sup) (ik := 109) (ic := 111) (A := fun q => s.heap.size ≤ q) hx hb hst hown (by decide +kernel) (by decide +kernel) (hts _ (List.mem_cons_of_mem _ (lw_in 2123 (by decide +kernel) (by decide +kernel)))) (hts _ (List.mem_cons_of_mem _ (lw_in 424 (by decide +kernel) (by decide +kernel)))) (lw_hat hts (fun w hw => List.mem_cons_of_mem _ hw) hE lw_at111 lw_ag111) (lw_good3 lw_ag111) hE.1 hE.2.1 hS (hl.1.trans hml.symm) ld_X11_count_9 ld_X11_count_12 ld_X11_count_13 ld_X11_count_16 (fun x hx9 => (htab x hx9).elim) (Nat.le_of_ble_eq_true rfl) (Nat.le_of_ble_eq_true rfl) (Nat.le_of_ble_eq_true rfl) (Nat.le_of_ble_eq_true rfl) hlocks (fun t _ h1 h2 => ⟨(), trivial, rfl, Nat.le_trans hS.1 h1, fun q hq hn => (h2 q (Nat.lt_of_lt_of_le hq hS.1)).trans (hS.2.1 q hq hn)⟩) (fun z h9 => hS.2.2 z h9) (Nat.le_of_ble_eq_true rfl) (Nat.le_of_ble_eq_true rfl)
  · skip
    refine lv_iload_n hx hb ld_X11_count_4 rfl (lv_at hl 1 rfl) ?_
    refine lv_iconst (v := 5) hx hb ld_X11_count_5 (by decide) ?_
    refine lv_icmp_le (tgt := 17) hx hb ld_X11_count_6 (by decide) (fun z => absurd z (hbad.resolve_left c_1)) (fun _ => ?_)
    exact vx_throw0 (own := "TableTongue") (cls := "java/lang/IndexOutOfBoundsException") (names := lw_sup) (ik := 109) (ic := 111) (A := fun q => s.heap.size ≤ q) hx hb hst hown (by decide +kernel) (by decide +kernel) (hts _ (List.mem_cons_of_mem _ (lw_in 2123 (by decide +kernel) (by decide +kernel)))) (hts _ (List.mem_cons_of_mem _ (lw_in 424 (by decide +kernel) (by decide +kernel)))) (lw_hat hts (fun w hw => List.mem_cons_of_mem _ hw) hE lw_at111 lw_ag111) (lw_good3 lw_ag111) hE.1 hE.2.1 hS (hl.1.trans hml.symm) ld_X11_count_9 ld_X11_count_12 ld_X11_count_13 ld_X11_count_16 (fun x hx9 => (htab x hx9).elim) (Nat.le_of_ble_eq_true rfl) (Nat.le_of_ble_eq_true rfl) (Nat.le_of_ble_eq_true rfl) (Nat.le_of_ble_eq_true rfl) hlocks (fun t _ h1 h2 => ⟨(), trivial, rfl, Nat.le_trans hS.1 h1, fun q hq hn => (h2 q (Nat.lt_of_lt_of_le hq hS.1)).trans (hS.2.1 q hq hn)⟩) (fun z h9 => hS.2.2 z h9) (Nat.le_of_ble_eq_true rfl) (Nat.le_of_ble_eq_true rfl)
set_option maxHeartbeats 4000000 in
set_option maxRecDepth 100000 in
theorem ut_X11_feed (l : Launch) (hst : l.stackTraces = false) (D : va_G) (q0 sz : Nat) (fs : List Value) {zs fp fl cv : Int32} (hf8 : fs[8]? = some (.int zs)) (hf9 : fs[9]? = some (.int cv)) (hf10 : fs[10]? = some (.int fp)) (hf11 : fs[11]? = some (.int fl)) (a1 : Int32) (a2 : Int64) (hbad : a1 < 1 ∨ 8 < a1 ∨ ¬ zs + a1 ≤ 6000) : vx_Met l ly_X11_feed (lw_w ly_X11_feed prog_1_method_2_code 5 (some .int)) ({ frames := 8, cells := 1, slots := 6, locals := 150 }) (lw_PX D q0 fs sz [.ref q0, .int a1, .long a2]) (va_Qi (S := Unit) (fun _ _ => False) (fun _ _ => True) (fun q => sz ≤ q)) (lw_XX "java/lang/IllegalArgumentException" sz) 1 6 (fun q => sz ≤ q) := by
  refine vx_ofW (cc := prog_1_method_2_code) (maxL := 5) (ret := (some .int)) (by decide) rfl ?_
  intro p e s m args below meth c s₁ B hml htab hv
  obtain ⟨rfl, hsz, hP, hK, hE⟩ := hv
  subst hsz
  have hx := B.exec
  have hb := B.bytes
  have hr := B.returns
  have hts := atoms_spec (ws := lw_w ly_X11_feed prog_1_method_2_code 5 (some .int)) B.pre
  have hin : ∀ w ∈ u_ws "TableTongue" al_TX11 12, w ∈ lw_w ly_X11_feed prog_1_method_2_code 5 (some .int) := fun w hw => List.mem_cons_of_mem _ (lw_u (ci := 3) rfl w hw)
  have hown : s.vm.findClass "TableTongue" = some m.cls := findClass_of_methodNamed B.named
  have hlocks := B.notSynchronized
  have hS : va_S (fun q => s.heap.size ≤ q) s.heap s.heap [] := va_S.rf
  have hl := lv_entry ([.ref q0, .int a1, .long a2]) (n := 5) (Nat.le_of_ble_eq_true rfl)
  rw [lg_entry_eq]
  generalize (lg_sl ([.ref q0, .int a1, .long a2]) ++ List.replicate (5 - (lg_sl ([.ref q0, .int a1, .long a2])).length) Slot.unset).toArray = ls at hl ⊢
  have hl : lv_has ls 5 [(0, .ref q0), (1, .int a1), (2, .long a2)] := hl
  refine lv_iload_n hx hb ld_X11_feed_0 rfl (lv_at hl 1 rfl) ?_
  refine lv_iconst (v := 1) hx hb ld_X11_feed_1 (by decide) ?_
  refine lv_icmp_lt (tgt := 23) hx hb ld_X11_feed_2 (by decide) (fun c_1 => ?_) (fun c_1 => ?_)
  · skip
    exact vx_throw0 (own := "TableTongue") (cls := "java/lang/IllegalArgumentException") (names := lw_sup) (ik := 83) (ic := 85) (A := fun q => s.heap.size ≤ q) hx hb hst hown (by decide +kernel) (by decide +kernel) (hts _ (List.mem_cons_of_mem _ (lw_in 2104 (by decide +kernel) (by decide +kernel)))) (hts _ (List.mem_cons_of_mem _ (lw_in 415 (by decide +kernel) (by decide +kernel)))) (lw_hat hts (fun w hw => List.mem_cons_of_mem _ hw) hE lw_at85 lw_ag85) (lw_good3 lw_ag85) hE.1 hE.2.1 hS (hl.1.trans hml.symm) ld_X11_feed_23 ld_X11_feed_26 ld_X11_feed_27 ld_X11_feed_30 (fun x hx9 => (htab x hx9).elim) (Nat.le_of_ble_eq_true rfl) (Nat.le_of_ble_eq_true rfl) (Nat.le_of_ble_eq_true rfl) (Nat.le_of_ble_eq_true rfl) hlocks (fun t _ h1 h2 => ⟨(), trivial, rfl, Nat.le_trans hS.1 h1, fun q hq hn => (h2 q (Nat.lt_of_lt_of_le hq hS.1)).trans (hS.2.1 q hq hn)⟩) (fun z h9 => hS.2.2 z h9) (Nat.le_of_ble_eq_true rfl) (Nat.le_of_ble_eq_true rfl)
  · skip
    refine lv_iload_n hx hb ld_X11_feed_5 rfl (lv_at hl 1 rfl) ?_
    refine lv_bipush (v := 8) hx hb ld_X11_feed_6 (by decide) ?_
    refine lv_icmp_gt (tgt := 23) hx hb ld_X11_feed_8 (by decide) (fun c_2 => ?_) (fun c_2 => ?_)
    · skip
      exact vx_throw0 (own := "TableTongue") (cls := "java/lang/IllegalArgumentException") (names := lw_sup) (ik := 83) (ic := 85) (A := fun q => s.heap.size ≤ q) hx hb hst hown (by decide +kernel) (by decide +kernel) (hts _ (List.mem_cons_of_mem _ (lw_in 2104 (by decide +kernel) (by decide +kernel)))) (hts _ (List.mem_cons_of_mem _ (lw_in 415 (by decide +kernel) (by decide +kernel)))) (lw_hat hts (fun w hw => List.mem_cons_of_mem _ hw) hE lw_at85 lw_ag85) (lw_good3 lw_ag85) hE.1 hE.2.1 hS (hl.1.trans hml.symm) ld_X11_feed_23 ld_X11_feed_26 ld_X11_feed_27 ld_X11_feed_30 (fun x hx9 => (htab x hx9).elim) (Nat.le_of_ble_eq_true rfl) (Nat.le_of_ble_eq_true rfl) (Nat.le_of_ble_eq_true rfl) (Nat.le_of_ble_eq_true rfl) hlocks (fun t _ h1 h2 => ⟨(), trivial, rfl, Nat.le_trans hS.1 h1, fun q hq hn => (h2 q (Nat.lt_of_lt_of_le hq hS.1)).trans (hS.2.1 q hq hn)⟩) (fun z h9 => hS.2.2 z h9) (Nat.le_of_ble_eq_true rfl) (Nat.le_of_ble_eq_true rfl)
    · skip
      refine lv_aload_n hx hb ld_X11_feed_11 rfl (lv_at hl 0 rfl) ?_
      refine va_get (D := D) (ci := 3) (v := .int zs) (C := "TableTongue") (T := al_TX11) (N := 12) hx hb hts hin hown hK hP 0 rfl rfl 8 (by decide) (hts (.fieldLink "TableTongue" 80 "TableTongue" "size" "I") (List.mem_cons_of_mem _ (lw_in 1585 (by decide +kernel) (by decide +kernel)))) (fun _ h9 => h9) hf8 ld_X11_feed_12 ?_
      refine lv_iload_n hx hb ld_X11_feed_15 rfl (lv_at hl 1 rfl) ?_
      refine lv_iadd hx hb ld_X11_feed_16 ?_
      refine lv_sipush (v := 6000) hx hb ld_X11_feed_17 (by decide) ?_
      refine lv_icmp_le (tgt := 31) hx hb ld_X11_feed_20 (by decide) (fun z => absurd z ((hbad.resolve_left c_1).resolve_left c_2)) (fun _ => ?_)
      exact vx_throw0 (own := "TableTongue") (cls := "java/lang/IllegalArgumentException") (names := lw_sup) (ik := 83) (ic := 85) (A := fun q => s.heap.size ≤ q) hx hb hst hown (by decide +kernel) (by decide +kernel) (hts _ (List.mem_cons_of_mem _ (lw_in 2104 (by decide +kernel) (by decide +kernel)))) (hts _ (List.mem_cons_of_mem _ (lw_in 415 (by decide +kernel) (by decide +kernel)))) (lw_hat hts (fun w hw => List.mem_cons_of_mem _ hw) hE lw_at85 lw_ag85) (lw_good3 lw_ag85) hE.1 hE.2.1 hS (hl.1.trans hml.symm) ld_X11_feed_23 ld_X11_feed_26 ld_X11_feed_27 ld_X11_feed_30 (fun x hx9 => (htab x hx9).elim) (Nat.le_of_ble_eq_true rfl) (Nat.le_of_ble_eq_true rfl) (Nat.le_of_ble_eq_true rfl) (Nat.le_of_ble_eq_true rfl) hlocks (fun t _ h1 h2 => ⟨(), trivial, rfl, Nat.le_trans hS.1 h1, fun q hq hn => (h2 q (Nat.lt_of_lt_of_le hq hS.1)).trans (hS.2.1 q hq hn)⟩) (fun z h9 => hS.2.2 z h9) (Nat.le_of_ble_eq_true rfl) (Nat.le_of_ble_eq_true rfl)
set_option maxHeartbeats 4000000 in
set_option maxRecDepth 100000 in
theorem ur_X11_results (l : Launch) (D : va_G) (q0 sz : Nat) (fs : List Value) {zs fp fl : Int32} (hf8 : fs[8]? = some (.int zs)) (hf9 : fs[9]? = some (.int 0)) (hf10 : fs[10]? = some (.int fp)) (hf11 : fs[11]? = some (.int fl))   : Met l ly_X11_results (lw_w ly_X11_results prog_1_method_10_code 1 (some .int)) ({ frames := 2, cells := 0, slots := 0, locals := 40 }) (lw_PX D q0 fs sz [.ref q0]) (va_Qi (S := Unit) (fun r _ => r = 0) (fun _ _ => True) (fun q => sz ≤ q)) 0 0 (fun q => sz ≤ q) := by
  refine Met.ofW (cc := prog_1_method_10_code) (maxL := 1) (ret := (some .int)) (by decide) rfl ?_
  intro p e s m args below meth c s₁ B hml hv
  obtain ⟨rfl, hsz, hP, hK, hE⟩ := hv
  subst hsz
  have hx := B.exec
  have hb := B.bytes
  have hr := B.returns
  have hts := atoms_spec (ws := lw_w ly_X11_results prog_1_method_10_code 1 (some .int)) B.pre
  have hin : ∀ w ∈ u_ws "TableTongue" al_TX11 12, w ∈ lw_w ly_X11_results prog_1_method_10_code 1 (some .int) := fun w hw => List.mem_cons_of_mem _ (lw_u (ci := 3) rfl w hw)
  have hown : s.vm.findClass "TableTongue" = some m.cls := findClass_of_methodNamed B.named
  have hS : va_S (fun q => s.heap.size ≤ q) s.heap s.heap [] := va_S.rf
  have hl := lv_entry ([.ref q0]) (n := 1) (Nat.le_of_ble_eq_true rfl)
  rw [lg_entry_eq]
  generalize (lg_sl ([.ref q0]) ++ List.replicate (1 - (lg_sl ([.ref q0])).length) Slot.unset).toArray = ls at hl ⊢
  have hl : lv_has ls 1 [(0, .ref q0)] := hl
  refine lv_aload_n hx hb ld_X11_results_0 rfl (lv_at hl 0 rfl) ?_
  refine va_get (D := D) (ci := 3) (v := .int 0) (C := "TableTongue") (T := al_TX11) (N := 12) hx hb hts hin hown hK hP 0 rfl rfl 9 (by decide) (hts (.fieldLink "TableTongue" 99 "TableTongue" "compiled" "Z") (List.mem_cons_of_mem _ (lw_in 1586 (by decide +kernel) (by decide +kernel)))) (fun _ h9 => h9) hf9 ld_X11_results_1 ?_
  refine lv_if_eq (tgt := 17) hx hb ld_X11_results_4 (by decide) (fun _ => ?_) (fun z => absurd z (by decide))
  refine lv_iconst (v := 0) hx hb ld_X11_results_17 (by decide) ?_
  exact W.iret (v := 0) hx hb hr (fun t ht hW => ⟨⟨0, (), rfl, rfl, trivial⟩, hS.F ht⟩) hS.2.2 ld_X11_results_18
set_option maxHeartbeats 4000000 in
set_option maxRecDepth 100000 in
theorem ur_X11_outputs (l : Launch) (D : va_G) (q0 sz : Nat) (fs : List Value) {zs fp fl : Int32} (hf8 : fs[8]? = some (.int zs)) (hf9 : fs[9]? = some (.int 0)) (hf10 : fs[10]? = some (.int fp)) (hf11 : fs[11]? = some (.int fl))   : Met l ly_X11_outputs (lw_w ly_X11_outputs prog_1_method_13_code 1 (some .int)) ({ frames := 2, cells := 0, slots := 0, locals := 40 }) (lw_PX D q0 fs sz [.ref q0]) (va_Qi (S := Unit) (fun r _ => r = 0) (fun _ _ => True) (fun q => sz ≤ q)) 0 0 (fun q => sz ≤ q) := by
  refine Met.ofW (cc := prog_1_method_13_code) (maxL := 1) (ret := (some .int)) (by decide) rfl ?_
  intro p e s m args below meth c s₁ B hml hv
  obtain ⟨rfl, hsz, hP, hK, hE⟩ := hv
  subst hsz
  have hx := B.exec
  have hb := B.bytes
  have hr := B.returns
  have hts := atoms_spec (ws := lw_w ly_X11_outputs prog_1_method_13_code 1 (some .int)) B.pre
  have hin : ∀ w ∈ u_ws "TableTongue" al_TX11 12, w ∈ lw_w ly_X11_outputs prog_1_method_13_code 1 (some .int) := fun w hw => List.mem_cons_of_mem _ (lw_u (ci := 3) rfl w hw)
  have hown : s.vm.findClass "TableTongue" = some m.cls := findClass_of_methodNamed B.named
  have hS : va_S (fun q => s.heap.size ≤ q) s.heap s.heap [] := va_S.rf
  have hl := lv_entry ([.ref q0]) (n := 1) (Nat.le_of_ble_eq_true rfl)
  rw [lg_entry_eq]
  generalize (lg_sl ([.ref q0]) ++ List.replicate (1 - (lg_sl ([.ref q0])).length) Slot.unset).toArray = ls at hl ⊢
  have hl : lv_has ls 1 [(0, .ref q0)] := hl
  refine lv_aload_n hx hb ld_X11_outputs_0 rfl (lv_at hl 0 rfl) ?_
  refine va_get (D := D) (ci := 3) (v := .int 0) (C := "TableTongue") (T := al_TX11) (N := 12) hx hb hts hin hown hK hP 0 rfl rfl 9 (by decide) (hts (.fieldLink "TableTongue" 99 "TableTongue" "compiled" "Z") (List.mem_cons_of_mem _ (lw_in 1586 (by decide +kernel) (by decide +kernel)))) (fun _ h9 => h9) hf9 ld_X11_outputs_1 ?_
  refine lv_if_eq (tgt := 27) hx hb ld_X11_outputs_4 (by decide) (fun _ => ?_) (fun z => absurd z (by decide))
  refine lv_iconst (v := 0) hx hb ld_X11_outputs_27 (by decide) ?_
  exact W.iret (v := 0) hx hb hr (fun t ht hW => ⟨⟨0, (), rfl, rfl, trivial⟩, hS.F ht⟩) hS.2.2 ld_X11_outputs_28
set_option maxHeartbeats 4000000 in
set_option maxRecDepth 100000 in
theorem ur_X11_steps (l : Launch) (D : va_G) (q0 sz : Nat) (fs : List Value) {zs fp fl : Int32} (hf8 : fs[8]? = some (.int zs)) (hf9 : fs[9]? = some (.int 0)) (hf10 : fs[10]? = some (.int fp)) (hf11 : fs[11]? = some (.int fl))   : Met l ly_X11_steps (lw_w ly_X11_steps prog_1_method_9_code 1 (some .long)) ({ frames := 2, cells := 0, slots := 0, locals := 40 }) (lw_PX D q0 fs sz [.ref q0]) (va_Ql (S := Unit) (fun r _ => r = 0) (fun _ _ => True) (fun q => sz ≤ q)) 0 0 (fun q => sz ≤ q) := by
  refine Met.ofW (cc := prog_1_method_9_code) (maxL := 1) (ret := (some .long)) (by decide) rfl ?_
  intro p e s m args below meth c s₁ B hml hv
  obtain ⟨rfl, hsz, hP, hK, hE⟩ := hv
  subst hsz
  have hx := B.exec
  have hb := B.bytes
  have hr := B.returns
  have hts := atoms_spec (ws := lw_w ly_X11_steps prog_1_method_9_code 1 (some .long)) B.pre
  have hin : ∀ w ∈ u_ws "TableTongue" al_TX11 12, w ∈ lw_w ly_X11_steps prog_1_method_9_code 1 (some .long) := fun w hw => List.mem_cons_of_mem _ (lw_u (ci := 3) rfl w hw)
  have hown : s.vm.findClass "TableTongue" = some m.cls := findClass_of_methodNamed B.named
  have hS : va_S (fun q => s.heap.size ≤ q) s.heap s.heap [] := va_S.rf
  have hl := lv_entry ([.ref q0]) (n := 1) (Nat.le_of_ble_eq_true rfl)
  rw [lg_entry_eq]
  generalize (lg_sl ([.ref q0]) ++ List.replicate (1 - (lg_sl ([.ref q0])).length) Slot.unset).toArray = ls at hl ⊢
  have hl : lv_has ls 1 [(0, .ref q0)] := hl
  refine lv_aload_n hx hb ld_X11_steps_0 rfl (lv_at hl 0 rfl) ?_
  refine va_get (D := D) (ci := 3) (v := .int 0) (C := "TableTongue") (T := al_TX11) (N := 12) hx hb hts hin hown hK hP 0 rfl rfl 9 (by decide) (hts (.fieldLink "TableTongue" 99 "TableTongue" "compiled" "Z") (List.mem_cons_of_mem _ (lw_in 1586 (by decide +kernel) (by decide +kernel)))) (fun _ h9 => h9) hf9 ld_X11_steps_1 ?_
  refine lv_if_eq (tgt := 17) hx hb ld_X11_steps_4 (by decide) (fun _ => ?_) (fun z => absurd z (by decide))
  refine lv_lconst (v := 0) hx hb ld_X11_steps_17 (by decide) ?_
  exact W.lret (v := 0) hx hb hr (fun t ht hW => ⟨⟨0, (), rfl, rfl, trivial⟩, hS.F ht⟩) hS.2.2 ld_X11_steps_18
set_option maxHeartbeats 4000000 in
set_option maxRecDepth 100000 in
theorem ur_X11_fault0 (l : Launch) (D : va_G) (q0 sz : Nat) (fs : List Value) {zs fp fl cv : Int32} (hf8 : fs[8]? = some (.int zs)) (hf9 : fs[9]? = some (.int cv)) (hf10 : fs[10]? = some (.int fp)) (hf11 : fs[11]? = some (.int fl)) (a1 : Int32) (hok : a1 = 0) : Met l ly_X11_fault (lw_w ly_X11_fault prog_1_method_5_code 2 (some .int)) ({ frames := 2, cells := 0, slots := 0, locals := 40 }) (lw_PX D q0 fs sz [.ref q0, .int a1]) (va_Qi (S := Unit) (fun r _ => r = fp) (fun _ _ => True) (fun q => sz ≤ q)) 0 0 (fun q => sz ≤ q) := by
  refine Met.ofW (cc := prog_1_method_5_code) (maxL := 2) (ret := (some .int)) (by decide) rfl ?_
  intro p e s m args below meth c s₁ B hml hv
  obtain ⟨rfl, hsz, hP, hK, hE⟩ := hv
  subst hsz
  have hx := B.exec
  have hb := B.bytes
  have hr := B.returns
  have hts := atoms_spec (ws := lw_w ly_X11_fault prog_1_method_5_code 2 (some .int)) B.pre
  have hin : ∀ w ∈ u_ws "TableTongue" al_TX11 12, w ∈ lw_w ly_X11_fault prog_1_method_5_code 2 (some .int) := fun w hw => List.mem_cons_of_mem _ (lw_u (ci := 3) rfl w hw)
  have hown : s.vm.findClass "TableTongue" = some m.cls := findClass_of_methodNamed B.named
  have hS : va_S (fun q => s.heap.size ≤ q) s.heap s.heap [] := va_S.rf
  have hl := lv_entry ([.ref q0, .int a1]) (n := 2) (Nat.le_of_ble_eq_true rfl)
  rw [lg_entry_eq]
  generalize (lg_sl ([.ref q0, .int a1]) ++ List.replicate (2 - (lg_sl ([.ref q0, .int a1])).length) Slot.unset).toArray = ls at hl ⊢
  have hl : lv_has ls 2 [(0, .ref q0), (1, .int a1)] := hl
  refine lv_iload_n hx hb ld_X11_fault_0 rfl (lv_at hl 1 rfl) ?_
  refine lv_if_lt (tgt := 9) hx hb ld_X11_fault_1 (by decide) (fun z => absurd z (by rw [hok]; decide)) (fun _ => ?_)
  refine lv_iload_n hx hb ld_X11_fault_4 rfl (lv_at hl 1 rfl) ?_
  refine lv_iconst (v := 1) hx hb ld_X11_fault_5 (by decide) ?_
  refine lv_icmp_le (tgt := 17) hx hb ld_X11_fault_6 (by decide) (fun _ => ?_) (fun z => absurd (by rw [hok]; decide) z)
  refine lv_iload_n hx hb ld_X11_fault_17 rfl (lv_at hl 1 rfl) ?_
  refine lv_if_ne (tgt := 28) hx hb ld_X11_fault_18 (by decide) (fun z => absurd hok z) (fun _ => ?_)
  refine lv_aload_n hx hb ld_X11_fault_21 rfl (lv_at hl 0 rfl) ?_
  refine va_get (D := D) (ci := 3) (v := .int fp) (C := "TableTongue") (T := al_TX11) (N := 12) hx hb hts hin hown hK hP 0 rfl rfl 10 (by decide) (hts (.fieldLink "TableTongue" 41 "TableTongue" "faultPlace" "I") (List.mem_cons_of_mem _ (lw_in 1587 (by decide +kernel) (by decide +kernel)))) (fun _ h9 => h9) hf10 ld_X11_fault_22 ?_
  refine lv_goto (tgt := 32) hx hb ld_X11_fault_25 (by decide) ?_
  exact W.iret (v := fp) hx hb hr (fun t ht hW => ⟨⟨fp, (), rfl, rfl, trivial⟩, hS.F ht⟩) hS.2.2 ld_X11_fault_32
set_option maxHeartbeats 4000000 in
set_option maxRecDepth 100000 in
theorem ur_X11_fault1 (l : Launch) (D : va_G) (q0 sz : Nat) (fs : List Value) {zs fp fl cv : Int32} (hf8 : fs[8]? = some (.int zs)) (hf9 : fs[9]? = some (.int cv)) (hf10 : fs[10]? = some (.int fp)) (hf11 : fs[11]? = some (.int fl)) (a1 : Int32) (hok : a1 = 1) : Met l ly_X11_fault (lw_w ly_X11_fault prog_1_method_5_code 2 (some .int)) ({ frames := 2, cells := 0, slots := 0, locals := 40 }) (lw_PX D q0 fs sz [.ref q0, .int a1]) (va_Qi (S := Unit) (fun r _ => r = fl) (fun _ _ => True) (fun q => sz ≤ q)) 0 0 (fun q => sz ≤ q) := by
  refine Met.ofW (cc := prog_1_method_5_code) (maxL := 2) (ret := (some .int)) (by decide) rfl ?_
  intro p e s m args below meth c s₁ B hml hv
  obtain ⟨rfl, hsz, hP, hK, hE⟩ := hv
  subst hsz
  have hx := B.exec
  have hb := B.bytes
  have hr := B.returns
  have hts := atoms_spec (ws := lw_w ly_X11_fault prog_1_method_5_code 2 (some .int)) B.pre
  have hin : ∀ w ∈ u_ws "TableTongue" al_TX11 12, w ∈ lw_w ly_X11_fault prog_1_method_5_code 2 (some .int) := fun w hw => List.mem_cons_of_mem _ (lw_u (ci := 3) rfl w hw)
  have hown : s.vm.findClass "TableTongue" = some m.cls := findClass_of_methodNamed B.named
  have hS : va_S (fun q => s.heap.size ≤ q) s.heap s.heap [] := va_S.rf
  have hl := lv_entry ([.ref q0, .int a1]) (n := 2) (Nat.le_of_ble_eq_true rfl)
  rw [lg_entry_eq]
  generalize (lg_sl ([.ref q0, .int a1]) ++ List.replicate (2 - (lg_sl ([.ref q0, .int a1])).length) Slot.unset).toArray = ls at hl ⊢
  have hl : lv_has ls 2 [(0, .ref q0), (1, .int a1)] := hl
  refine lv_iload_n hx hb ld_X11_fault_0 rfl (lv_at hl 1 rfl) ?_
  refine lv_if_lt (tgt := 9) hx hb ld_X11_fault_1 (by decide) (fun z => absurd z (by rw [hok]; decide)) (fun _ => ?_)
  refine lv_iload_n hx hb ld_X11_fault_4 rfl (lv_at hl 1 rfl) ?_
  refine lv_iconst (v := 1) hx hb ld_X11_fault_5 (by decide) ?_
  refine lv_icmp_le (tgt := 17) hx hb ld_X11_fault_6 (by decide) (fun _ => ?_) (fun z => absurd (by rw [hok]; decide) z)
  refine lv_iload_n hx hb ld_X11_fault_17 rfl (lv_at hl 1 rfl) ?_
  refine lv_if_ne (tgt := 28) hx hb ld_X11_fault_18 (by decide) (fun _ => ?_) (fun z => absurd z (show ¬ a1 = 0 by rw [hok]; decide))
  refine lv_aload_n hx hb ld_X11_fault_28 rfl (lv_at hl 0 rfl) ?_
  refine va_get (D := D) (ci := 3) (v := .int fl) (C := "TableTongue") (T := al_TX11) (N := 12) hx hb hts hin hown hK hP 0 rfl rfl 11 (by decide) (hts (.fieldLink "TableTongue" 45 "TableTongue" "faultLine" "I") (List.mem_cons_of_mem _ (lw_in 1588 (by decide +kernel) (by decide +kernel)))) (fun _ h9 => h9) hf11 ld_X11_fault_29 ?_
  exact W.iret (v := fl) hx hb hr (fun t ht hW => ⟨⟨fl, (), rfl, rfl, trivial⟩, hS.F ht⟩) hS.2.2 ld_X11_fault_32
set_option maxHeartbeats 4000000 in
set_option maxRecDepth 100000 in
theorem ur_X11_count (l : Launch) (D : va_G) (q0 sz : Nat) (fs : List Value) {zs fp fl : Int32} (hf8 : fs[8]? = some (.int zs)) (hf9 : fs[9]? = some (.int 0)) (hf10 : fs[10]? = some (.int fp)) (hf11 : fs[11]? = some (.int fl)) (a1 : Int32) (hok0 : ¬ a1 < 0) (hok5 : a1 ≤ 5) : Met l ly_X11_count (lw_w ly_X11_count prog_1_method_15_code 2 (some .int)) ({ frames := 2, cells := 0, slots := 0, locals := 40 }) (lw_PX D q0 fs sz [.ref q0, .int a1]) (va_Qi (S := Unit) (fun r _ => r = 0) (fun _ _ => True) (fun q => sz ≤ q)) 0 0 (fun q => sz ≤ q) := by
  refine Met.ofW (cc := prog_1_method_15_code) (maxL := 2) (ret := (some .int)) (by decide) rfl ?_
  intro p e s m args below meth c s₁ B hml hv
  obtain ⟨rfl, hsz, hP, hK, hE⟩ := hv
  subst hsz
  have hx := B.exec
  have hb := B.bytes
  have hr := B.returns
  have hts := atoms_spec (ws := lw_w ly_X11_count prog_1_method_15_code 2 (some .int)) B.pre
  have hin : ∀ w ∈ u_ws "TableTongue" al_TX11 12, w ∈ lw_w ly_X11_count prog_1_method_15_code 2 (some .int) := fun w hw => List.mem_cons_of_mem _ (lw_u (ci := 3) rfl w hw)
  have hown : s.vm.findClass "TableTongue" = some m.cls := findClass_of_methodNamed B.named
  have hS : va_S (fun q => s.heap.size ≤ q) s.heap s.heap [] := va_S.rf
  have hl := lv_entry ([.ref q0, .int a1]) (n := 2) (Nat.le_of_ble_eq_true rfl)
  rw [lg_entry_eq]
  generalize (lg_sl ([.ref q0, .int a1]) ++ List.replicate (2 - (lg_sl ([.ref q0, .int a1])).length) Slot.unset).toArray = ls at hl ⊢
  have hl : lv_has ls 2 [(0, .ref q0), (1, .int a1)] := hl
  refine lv_iload_n hx hb ld_X11_count_0 rfl (lv_at hl 1 rfl) ?_
  refine lv_if_lt (tgt := 9) hx hb ld_X11_count_1 (by decide) (fun z => absurd z hok0) (fun _ => ?_)
  refine lv_iload_n hx hb ld_X11_count_4 rfl (lv_at hl 1 rfl) ?_
  refine lv_iconst (v := 5) hx hb ld_X11_count_5 (by decide) ?_
  refine lv_icmp_le (tgt := 17) hx hb ld_X11_count_6 (by decide) (fun _ => ?_) (fun z => absurd hok5 z)
  refine lv_aload_n hx hb ld_X11_count_17 rfl (lv_at hl 0 rfl) ?_
  refine va_get (D := D) (ci := 3) (v := .int 0) (C := "TableTongue") (T := al_TX11) (N := 12) hx hb hts hin hown hK hP 0 rfl rfl 9 (by decide) (hts (.fieldLink "TableTongue" 99 "TableTongue" "compiled" "Z") (List.mem_cons_of_mem _ (lw_in 1586 (by decide +kernel) (by decide +kernel)))) (fun _ h9 => h9) hf9 ld_X11_count_18 ?_
  refine lv_if_ne (tgt := 26) hx hb ld_X11_count_21 (by decide) (fun z => absurd z (by decide)) (fun _ => ?_)
  refine lv_iconst (v := 0) hx hb ld_X11_count_24 (by decide) ?_
  exact W.iret (v := 0) hx hb hr (fun t ht hW => ⟨⟨0, (), rfl, rfl, trivial⟩, hS.F ht⟩) hS.2.2 ld_X11_count_25
set_option maxHeartbeats 4000000 in
set_option maxRecDepth 100000 in
theorem ut_X11_result (l : Launch) (hst : l.stackTraces = false) (D : va_G) (q0 sz : Nat) (fs : List Value) {zs fp fl : Int32} (hf8 : fs[8]? = some (.int zs)) (hf9 : fs[9]? = some (.int 0)) (hf10 : fs[10]? = some (.int fp)) (hf11 : fs[11]? = some (.int fl)) (a1 : Int32) (a2 : Int32)  : vx_Met l ly_X11_result (lw_w ly_X11_result prog_1_method_11_code 4 (some .long)) ({ frames := 8, cells := 1, slots := 6, locals := 150 }) (lw_PX D q0 fs sz [.ref q0, .int a1, .int a2]) (va_Ql (S := Unit) (fun _ _ => False) (fun _ _ => True) (fun q => sz ≤ q)) (lw_XX "java/lang/IndexOutOfBoundsException" sz) 1 6 (fun q => sz ≤ q) := by
  refine vx_ofW (cc := prog_1_method_11_code) (maxL := 4) (ret := (some .long)) (by decide) rfl ?_
  intro p e s m args below meth c s₁ B hml htab hv
  obtain ⟨rfl, hsz, hP, hK, hE⟩ := hv
  subst hsz
  have hx := B.exec
  have hb := B.bytes
  have hr := B.returns
  have hts := atoms_spec (ws := lw_w ly_X11_result prog_1_method_11_code 4 (some .long)) B.pre
  have hin : ∀ w ∈ u_ws "TableTongue" al_TX11 12, w ∈ lw_w ly_X11_result prog_1_method_11_code 4 (some .long) := fun w hw => List.mem_cons_of_mem _ (lw_u (ci := 3) rfl w hw)
  have hown : s.vm.findClass "TableTongue" = some m.cls := findClass_of_methodNamed B.named
  have hlocks := B.notSynchronized
  have hS : va_S (fun q => s.heap.size ≤ q) s.heap s.heap [] := va_S.rf
  have hl := lv_entry ([.ref q0, .int a1, .int a2]) (n := 4) (Nat.le_of_ble_eq_true rfl)
  rw [lg_entry_eq]
  generalize (lg_sl ([.ref q0, .int a1, .int a2]) ++ List.replicate (4 - (lg_sl ([.ref q0, .int a1, .int a2])).length) Slot.unset).toArray = ls at hl ⊢
  have hl : lv_has ls 4 [(0, .ref q0), (1, .int a1), (2, .int a2)] := hl
  refine lv_iload_n hx hb ld_X11_result_0 rfl (lv_at hl 1 rfl) ?_
  refine lv_if_lt (tgt := 21) hx hb ld_X11_result_1 (by decide) (fun c_1 => ?_) (fun c_1 => ?_)
  · skip
    exact vx_throw0 (own := "TableTongue") (cls := "java/lang/IndexOutOfBoundsException") (names := lw_sup) (ik := 109) (ic := 111) (A := fun q => s.heap.size ≤ q) hx hb hst hown (by decide +kernel) (by decide +kernel) (hts _ (List.mem_cons_of_mem _ (lw_in 2123 (by decide +kernel) (by decide +kernel)))) (hts _ (List.mem_cons_of_mem _ (lw_in 424 (by decide +kernel) (by decide +kernel)))) (lw_hat hts (fun w hw => List.mem_cons_of_mem _ hw) hE lw_at111 lw_ag111) (lw_good3 lw_ag111) hE.1 hE.2.1 hS (hl.1.trans hml.symm) ld_X11_result_21 ld_X11_result_24 ld_X11_result_25 ld_X11_result_28 (fun x hx9 => (htab x hx9).elim) (Nat.le_of_ble_eq_true rfl) (Nat.le_of_ble_eq_true rfl) (Nat.le_of_ble_eq_true rfl) (Nat.le_of_ble_eq_true rfl) hlocks (fun t _ h1 h2 => ⟨(), trivial, rfl, Nat.le_trans hS.1 h1, fun q hq hn => (h2 q (Nat.lt_of_lt_of_le hq hS.1)).trans (hS.2.1 q hq hn)⟩) (fun z h9 => hS.2.2 z h9) (Nat.le_of_ble_eq_true rfl) (Nat.le_of_ble_eq_true rfl)
  · skip
    refine lv_iload_n hx hb ld_X11_result_4 rfl (lv_at hl 1 rfl) ?_
    refine lv_aload_n hx hb ld_X11_result_5 rfl (lv_at hl 0 rfl) ?_
    refine va_calli (va_runV (As := []) (rest := [.int a1]) (C := "TableTongue") (Ts := lw_w ly_X11_result prog_1_method_11_code 4 (some .long)) ⟨hx, hb, hml, hown, hts⟩ (ur_X11_results l D q0 s.heap.size fs hf8 hf9 hf10 hf11) ⟨callB_of 0 hts (lw_GoodIn (List.mem_cons_of_mem _ (lw_in 2083 (by decide +kernel) (by decide +kernel))) (by decide +kernel)) rfl rfl rfl (hts _ (List.mem_cons_of_mem _ (lw_in 394 (by decide +kernel) (by decide +kernel)))) (hts _ (List.mem_cons_of_mem _ (lw_in 2908 (by decide +kernel) (by decide +kernel)))) ⟨by decide, by decide, by decide +kernel⟩ ⟨Nat.le_of_ble_eq_true rfl, Nat.le_of_ble_eq_true rfl⟩, hts _ (List.mem_cons_of_mem _ (lw_in 2081 (by decide +kernel) (by decide +kernel))), hts _ (List.mem_cons_of_mem _ (lw_in 2082 (by decide +kernel) (by decide +kernel)))⟩ ⟨lw_PX.blind, va_recv hK hP (ci := 3) (q0 := 0) rfl rfl, fun U hU hW => ⟨rfl, by rw [hU], by rw [hU]; exact hP, va_K.moved hW.alike hK, hE.go hW hU va_S.rf (fun _ h => h)⟩⟩ rfl rfl hl.1 rfl (lv_room (Nat.le_of_ble_eq_true rfl)) ld_X11_result_6 ⟨Nat.le_of_ble_eq_true rfl, Nat.le_of_ble_eq_true rfl⟩) va_S.rf (fun q _ h => h) (fun q h => h) (fun r_6 u t H1 locs1 ht hvm hw _ hz1 hk1 hS => ?_)
    obtain rfl : r_6 = 0 := hw
    refine lv_icmp_ge (tgt := 21) hx hb ld_X11_result_9 (by decide) (fun _ => ?_) (fun z => absurd (by first | exact Int32.not_lt.mp c_1 | omega) z)
    exact vx_throw0 (own := "TableTongue") (cls := "java/lang/IndexOutOfBoundsException") (names := lw_sup) (ik := 109) (ic := 111) (A := fun q => s.heap.size ≤ q) hx hb hst hown (by decide +kernel) (by decide +kernel) (hts _ (List.mem_cons_of_mem _ (lw_in 2123 (by decide +kernel) (by decide +kernel)))) (hts _ (List.mem_cons_of_mem _ (lw_in 424 (by decide +kernel) (by decide +kernel)))) (lw_hat hts (fun w hw => List.mem_cons_of_mem _ hw) hE lw_at111 lw_ag111) (lw_good3 lw_ag111) hE.1 hE.2.1 hS (hl.1.trans hml.symm) ld_X11_result_21 ld_X11_result_24 ld_X11_result_25 ld_X11_result_28 (fun x hx9 => (htab x hx9).elim) (Nat.le_of_ble_eq_true rfl) (Nat.le_of_ble_eq_true rfl) (Nat.le_of_ble_eq_true rfl) (Nat.le_of_ble_eq_true rfl) hlocks (fun t _ h1 h2 => ⟨(), trivial, rfl, Nat.le_trans hS.1 h1, fun q hq hn => (h2 q (Nat.lt_of_lt_of_le hq hS.1)).trans (hS.2.1 q hq hn)⟩) (fun z h9 => hS.2.2 z h9) (Nat.le_of_ble_eq_true rfl) (Nat.le_of_ble_eq_true rfl)
set_option maxHeartbeats 4000000 in
set_option maxRecDepth 100000 in
theorem ut_X11_resultByte (l : Launch) (hst : l.stackTraces = false) (D : va_G) (q0 sz : Nat) (fs : List Value) {zs fp fl : Int32} (hf8 : fs[8]? = some (.int zs)) (hf9 : fs[9]? = some (.int 0)) (hf10 : fs[10]? = some (.int fp)) (hf11 : fs[11]? = some (.int fl)) (a1 : Int32) (a2 : Int32)  : vx_Met l ly_X11_resultByte (lw_w ly_X11_resultByte prog_1_method_12_code 4 (some .int)) ({ frames := 8, cells := 1, slots := 6, locals := 150 }) (lw_PX D q0 fs sz [.ref q0, .int a1, .int a2]) (va_Qi (S := Unit) (fun _ _ => False) (fun _ _ => True) (fun q => sz ≤ q)) (lw_XX "java/lang/IndexOutOfBoundsException" sz) 1 6 (fun q => sz ≤ q) := by
  refine vx_ofW (cc := prog_1_method_12_code) (maxL := 4) (ret := (some .int)) (by decide) rfl ?_
  intro p e s m args below meth c s₁ B hml htab hv
  obtain ⟨rfl, hsz, hP, hK, hE⟩ := hv
  subst hsz
  have hx := B.exec
  have hb := B.bytes
  have hr := B.returns
  have hts := atoms_spec (ws := lw_w ly_X11_resultByte prog_1_method_12_code 4 (some .int)) B.pre
  have hin : ∀ w ∈ u_ws "TableTongue" al_TX11 12, w ∈ lw_w ly_X11_resultByte prog_1_method_12_code 4 (some .int) := fun w hw => List.mem_cons_of_mem _ (lw_u (ci := 3) rfl w hw)
  have hown : s.vm.findClass "TableTongue" = some m.cls := findClass_of_methodNamed B.named
  have hlocks := B.notSynchronized
  have hS : va_S (fun q => s.heap.size ≤ q) s.heap s.heap [] := va_S.rf
  have hl := lv_entry ([.ref q0, .int a1, .int a2]) (n := 4) (Nat.le_of_ble_eq_true rfl)
  rw [lg_entry_eq]
  generalize (lg_sl ([.ref q0, .int a1, .int a2]) ++ List.replicate (4 - (lg_sl ([.ref q0, .int a1, .int a2])).length) Slot.unset).toArray = ls at hl ⊢
  have hl : lv_has ls 4 [(0, .ref q0), (1, .int a1), (2, .int a2)] := hl
  refine lv_iload_n hx hb ld_X11_resultByte_0 rfl (lv_at hl 1 rfl) ?_
  refine lv_if_lt (tgt := 12) hx hb ld_X11_resultByte_1 (by decide) (fun c_1 => ?_) (fun c_1 => ?_)
  · skip
    exact vx_throw0 (own := "TableTongue") (cls := "java/lang/IndexOutOfBoundsException") (names := lw_sup) (ik := 109) (ic := 111) (A := fun q => s.heap.size ≤ q) hx hb hst hown (by decide +kernel) (by decide +kernel) (hts _ (List.mem_cons_of_mem _ (lw_in 2123 (by decide +kernel) (by decide +kernel)))) (hts _ (List.mem_cons_of_mem _ (lw_in 424 (by decide +kernel) (by decide +kernel)))) (lw_hat hts (fun w hw => List.mem_cons_of_mem _ hw) hE lw_at111 lw_ag111) (lw_good3 lw_ag111) hE.1 hE.2.1 hS (hl.1.trans hml.symm) ld_X11_resultByte_12 ld_X11_resultByte_15 ld_X11_resultByte_16 ld_X11_resultByte_19 (fun x hx9 => (htab x hx9).elim) (Nat.le_of_ble_eq_true rfl) (Nat.le_of_ble_eq_true rfl) (Nat.le_of_ble_eq_true rfl) (Nat.le_of_ble_eq_true rfl) hlocks (fun t _ h1 h2 => ⟨(), trivial, rfl, Nat.le_trans hS.1 h1, fun q hq hn => (h2 q (Nat.lt_of_lt_of_le hq hS.1)).trans (hS.2.1 q hq hn)⟩) (fun z h9 => hS.2.2 z h9) (Nat.le_of_ble_eq_true rfl) (Nat.le_of_ble_eq_true rfl)
  · skip
    refine lv_iload_n hx hb ld_X11_resultByte_4 rfl (lv_at hl 1 rfl) ?_
    refine lv_aload_n hx hb ld_X11_resultByte_5 rfl (lv_at hl 0 rfl) ?_
    refine va_calli (va_runV (As := []) (rest := [.int a1]) (C := "TableTongue") (Ts := lw_w ly_X11_resultByte prog_1_method_12_code 4 (some .int)) ⟨hx, hb, hml, hown, hts⟩ (ur_X11_results l D q0 s.heap.size fs hf8 hf9 hf10 hf11) ⟨callB_of 0 hts (lw_GoodIn (List.mem_cons_of_mem _ (lw_in 2083 (by decide +kernel) (by decide +kernel))) (by decide +kernel)) rfl rfl rfl (hts _ (List.mem_cons_of_mem _ (lw_in 394 (by decide +kernel) (by decide +kernel)))) (hts _ (List.mem_cons_of_mem _ (lw_in 2908 (by decide +kernel) (by decide +kernel)))) ⟨by decide, by decide, by decide +kernel⟩ ⟨Nat.le_of_ble_eq_true rfl, Nat.le_of_ble_eq_true rfl⟩, hts _ (List.mem_cons_of_mem _ (lw_in 2081 (by decide +kernel) (by decide +kernel))), hts _ (List.mem_cons_of_mem _ (lw_in 2082 (by decide +kernel) (by decide +kernel)))⟩ ⟨lw_PX.blind, va_recv hK hP (ci := 3) (q0 := 0) rfl rfl, fun U hU hW => ⟨rfl, by rw [hU], by rw [hU]; exact hP, va_K.moved hW.alike hK, hE.go hW hU va_S.rf (fun _ h => h)⟩⟩ rfl rfl hl.1 rfl (lv_room (Nat.le_of_ble_eq_true rfl)) ld_X11_resultByte_6 ⟨Nat.le_of_ble_eq_true rfl, Nat.le_of_ble_eq_true rfl⟩) va_S.rf (fun q _ h => h) (fun q h => h) (fun r_6 u t H1 locs1 ht hvm hw _ hz1 hk1 hS => ?_)
    obtain rfl : r_6 = 0 := hw
    refine lv_icmp_lt (tgt := 20) hx hb ld_X11_resultByte_9 (by decide) (fun z => absurd z c_1) (fun _ => ?_)
    exact vx_throw0 (own := "TableTongue") (cls := "java/lang/IndexOutOfBoundsException") (names := lw_sup) (ik := 109) (ic := 111) (A := fun q => s.heap.size ≤ q) hx hb hst hown (by decide +kernel) (by decide +kernel) (hts _ (List.mem_cons_of_mem _ (lw_in 2123 (by decide +kernel) (by decide +kernel)))) (hts _ (List.mem_cons_of_mem _ (lw_in 424 (by decide +kernel) (by decide +kernel)))) (lw_hat hts (fun w hw => List.mem_cons_of_mem _ hw) hE lw_at111 lw_ag111) (lw_good3 lw_ag111) hE.1 hE.2.1 hS (hl.1.trans hml.symm) ld_X11_resultByte_12 ld_X11_resultByte_15 ld_X11_resultByte_16 ld_X11_resultByte_19 (fun x hx9 => (htab x hx9).elim) (Nat.le_of_ble_eq_true rfl) (Nat.le_of_ble_eq_true rfl) (Nat.le_of_ble_eq_true rfl) (Nat.le_of_ble_eq_true rfl) hlocks (fun t _ h1 h2 => ⟨(), trivial, rfl, Nat.le_trans hS.1 h1, fun q hq hn => (h2 q (Nat.lt_of_lt_of_le hq hS.1)).trans (hS.2.1 q hq hn)⟩) (fun z h9 => hS.2.2 z h9) (Nat.le_of_ble_eq_true rfl) (Nat.le_of_ble_eq_true rfl)
