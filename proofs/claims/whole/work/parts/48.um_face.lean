/-! ===== 48: the reference's face where nothing is compiled (by wip/whole2/law47.py) ===== -/
theorem ld_X12_fault_25 : decode prog_14_method_107_code 25 = .ok (.aload_n 0, 1) := by decide +kernel
theorem ld_X12_fault_26 : decode prog_14_method_107_code 26 = .ok (.getfield 335, 3) := by decide +kernel
theorem ld_X12_fault_29 : decode prog_14_method_107_code 29 = .ok (.ifCond .le 7, 3) := by decide +kernel
theorem ld_X12_fault_36 : decode prog_14_method_107_code 36 = .ok (.iload_n 1, 1) := by decide +kernel
theorem ld_X12_fault_37 : decode prog_14_method_107_code 37 = .ok (.ifCond .ne 10, 3) := by decide +kernel
theorem ld_X12_fault_40 : decode prog_14_method_107_code 40 = .ok (.aload_n 0, 1) := by decide +kernel
theorem ld_X12_fault_41 : decode prog_14_method_107_code 41 = .ok (.getfield 621, 3) := by decide +kernel
theorem ld_X12_fault_44 : decode prog_14_method_107_code 44 = .ok (.goto 7, 3) := by decide +kernel
theorem ld_X12_fault_47 : decode prog_14_method_107_code 47 = .ok (.aload_n 0, 1) := by decide +kernel
theorem ld_X12_fault_48 : decode prog_14_method_107_code 48 = .ok (.getfield 919, 3) := by decide +kernel
set_option maxHeartbeats 4000000 in
set_option maxRecDepth 100000 in
theorem um_X12_fault_none (l : Launch) (D : va_G) (q0 sz : Nat) (fs : List Value) (hl0 : fs.length = 160) {tv zs fc fa fl cv : Int32} (hf0 : fs[0]? = some (.int tv)) (hf2 : fs[2]? = some (.int zs)) (hf3 : fs[3]? = some (.int cv)) (hf4 : fs[4]? = some (.int fc)) (hf5 : fs[5]? = some (.int fa)) (hf6 : fs[6]? = some (.int fl)) (a1 : Int32) (hok : a1 = 0 ∨ a1 = 1) (hfc : fc = 0) : Met l ly_X12_fault (lw_w ly_X12_fault prog_14_method_107_code 2 (some .int)) ({ frames := 2, cells := 0, slots := 0, locals := 80 }) (lw_PM D q0 fs sz [.ref q0, .int a1]) (va_Qi (S := Unit) (fun r _ => r = -1) (fun _ U => va_P D al_cl [(q0, .inr (0, (fs.set 0 (.int 0))))] U.heap ∧ va_K D al_cl [] U ∧ va_D (va_A [(q0, .inr (0, fs))] sz) [(q0, .inr (0, (fs.set 0 (.int 0))))]) (va_A [(q0, .inr (0, fs))] sz)) 0 0 (va_A [(q0, .inr (0, fs))] sz) := by
  refine Met.ofW (cc := prog_14_method_107_code) (maxL := 2) (ret := (some .int)) (by decide) rfl ?_
  intro p e s m args below meth c s₁ B hml hv
  obtain ⟨rfl, hsz, hP, hK, hD0⟩ := hv
  subst hsz
  have hx := B.exec
  have hb := B.bytes
  have hr := B.returns
  have hts := atoms_spec (ws := lw_w ly_X12_fault prog_14_method_107_code 2 (some .int)) B.pre
  have hin : ∀ w ∈ u_ws "TableTongueModel" al_TX12 160, w ∈ lw_w ly_X12_fault prog_14_method_107_code 2 (some .int) := fun w hw => List.mem_cons_of_mem _ (lw_u (ci := 0) rfl w hw)
  have hown : s.vm.findClass "TableTongueModel" = some m.cls := findClass_of_methodNamed B.named
  have hD := hD0.self (sz := s.heap.size)
  generalize hAe : va_A [(q0, .inr (0, fs))] s.heap.size = A at hD ⊢
  have hA : ∀ q : Nat, s.heap.size ≤ q → A q := fun q h => by rw [← hAe]; exact Or.inr h
  have hS : va_S A s.heap s.heap [] := va_S.rf
  have hl := lv_entry ([.ref q0, .int a1]) (n := 2) (Nat.le_of_ble_eq_true rfl)
  rw [lg_entry_eq]
  generalize (lg_sl ([.ref q0, .int a1]) ++ List.replicate (2 - (lg_sl ([.ref q0, .int a1])).length) Slot.unset).toArray = ls at hl ⊢
  have hl : lv_has ls 2 [(0, .ref q0), (1, .int a1)] := hl
  refine lv_aload_n hx hb ld_X12_fault_0 rfl (lv_at hl 0 rfl) ?_
  refine lv_iload_n hx hb ld_X12_fault_1 rfl (lv_at hl 1 rfl) ?_
  refine lv_if_eq (tgt := 10) hx hb ld_X12_fault_2 (by decide) (fun c_1 => ?_) (fun c_1 => ?_)
  · skip
    refine lv_iconst (v := 0) hx hb ld_X12_fault_10 (by decide) ?_
    refine lv_goto (tgt := 15) hx hb ld_X12_fault_11 (by decide) ?_
    refine va_put (D := D) (ci := 0) (v := .int 0) (ty := .int) (C := "TableTongueModel") (T := al_TX12) (N := 160) hx hb hts hin (al_tyf 0) (al_Cls.2 0 _ _ _ rfl).2.1 (al_Cls.2 0 _ _ _ rfl).2.2 hown hK hP hD hS 0 rfl rfl 0 (by decide) (hts (.fieldLink "TableTongueModel" 335 "TableTongueModel" "thrown" "I") (List.mem_cons_of_mem _ (lw_in 3069 (by decide +kernel) (by decide +kernel)))) (fun _ h9 => h9) rfl (by decide +kernel) rfl rfl (by omega) ld_X12_fault_15 (fun H locs hP hD hS => ?_)
    obtain ⟨fs1, efs1⟩ : ∃ z, z = fs.set 0 (.int 0) := ⟨_, rfl⟩
    have hP : va_P D al_cl [(q0, .inr (0, fs1))] H := by rw [efs1]; exact hP
    have hD : va_D A [(q0, .inr (0, fs1))] := by rw [efs1]; exact hD
    have hfs1_2 : fs1[2]? = some (.int zs) := by rw [efs1, List.getElem?_set_ne (by decide)]; exact hf2
    have hfs1_3 : fs1[3]? = some (.int cv) := by rw [efs1, List.getElem?_set_ne (by decide)]; exact hf3
    have hfs1_4 : fs1[4]? = some (.int fc) := by rw [efs1, List.getElem?_set_ne (by decide)]; exact hf4
    have hfs1_5 : fs1[5]? = some (.int fa) := by rw [efs1, List.getElem?_set_ne (by decide)]; exact hf5
    have hfs1_6 : fs1[6]? = some (.int fl) := by rw [efs1, List.getElem?_set_ne (by decide)]; exact hf6
    have hfs1_0 : fs1[0]? = some (.int 0) := by rw [efs1]; exact List.getElem?_set_self (by omega)
    have hlfs1 : fs1.length = 160 := by rw [efs1, List.length_set]; exact hl0
    refine lv_aload_n hx hb ld_X12_fault_18 rfl (lv_at hl 0 rfl) ?_
    refine va_get (D := D) (ci := 0) (v := .int fc) (C := "TableTongueModel") (T := al_TX12) (N := 160) hx hb hts hin hown hK hP 0 rfl rfl 4 (by decide) (hts (.fieldLink "TableTongueModel" 618 "TableTongueModel" "faultCode" "I") (List.mem_cons_of_mem _ (lw_in 3073 (by decide +kernel) (by decide +kernel)))) (fun _ h9 => h9) hfs1_4 ld_X12_fault_19 ?_
    refine lv_if_eq (tgt := 32) hx hb ld_X12_fault_22 (by decide) (fun _ => ?_) (fun z => absurd hfc z)
    refine lv_iconst (v := (-1)) hx hb ld_X12_fault_32 (by decide) ?_
    refine lv_goto (tgt := 51) hx hb ld_X12_fault_33 (by decide) ?_
    subst efs1
    exact W.iret (v := (-1)) hx hb hr (fun t ht hW => ⟨⟨(-1), (), rfl, rfl, by rw [ht]; exact hP, va_K.moved hW.alike hK, hD⟩, hS.F ht⟩) hS.2.2 ld_X12_fault_51
  · skip
    refine lv_iload_n hx hb ld_X12_fault_5 rfl (lv_at hl 1 rfl) ?_
    refine lv_iconst (v := 1) hx hb ld_X12_fault_6 (by decide) ?_
    refine lv_icmp_ne (tgt := 14) hx hb ld_X12_fault_7 (by decide) (fun z => absurd (hok.resolve_left c_1) z) (fun _ => ?_)
    refine lv_iconst (v := 0) hx hb ld_X12_fault_10 (by decide) ?_
    refine lv_goto (tgt := 15) hx hb ld_X12_fault_11 (by decide) ?_
    refine va_put (D := D) (ci := 0) (v := .int 0) (ty := .int) (C := "TableTongueModel") (T := al_TX12) (N := 160) hx hb hts hin (al_tyf 0) (al_Cls.2 0 _ _ _ rfl).2.1 (al_Cls.2 0 _ _ _ rfl).2.2 hown hK hP hD hS 0 rfl rfl 0 (by decide) (hts (.fieldLink "TableTongueModel" 335 "TableTongueModel" "thrown" "I") (List.mem_cons_of_mem _ (lw_in 3069 (by decide +kernel) (by decide +kernel)))) (fun _ h9 => h9) rfl (by decide +kernel) rfl rfl (by omega) ld_X12_fault_15 (fun H locs hP hD hS => ?_)
    obtain ⟨fs2, efs2⟩ : ∃ z, z = fs.set 0 (.int 0) := ⟨_, rfl⟩
    have hP : va_P D al_cl [(q0, .inr (0, fs2))] H := by rw [efs2]; exact hP
    have hD : va_D A [(q0, .inr (0, fs2))] := by rw [efs2]; exact hD
    have hfs2_2 : fs2[2]? = some (.int zs) := by rw [efs2, List.getElem?_set_ne (by decide)]; exact hf2
    have hfs2_3 : fs2[3]? = some (.int cv) := by rw [efs2, List.getElem?_set_ne (by decide)]; exact hf3
    have hfs2_4 : fs2[4]? = some (.int fc) := by rw [efs2, List.getElem?_set_ne (by decide)]; exact hf4
    have hfs2_5 : fs2[5]? = some (.int fa) := by rw [efs2, List.getElem?_set_ne (by decide)]; exact hf5
    have hfs2_6 : fs2[6]? = some (.int fl) := by rw [efs2, List.getElem?_set_ne (by decide)]; exact hf6
    have hfs2_0 : fs2[0]? = some (.int 0) := by rw [efs2]; exact List.getElem?_set_self (by omega)
    have hlfs2 : fs2.length = 160 := by rw [efs2, List.length_set]; exact hl0
    refine lv_aload_n hx hb ld_X12_fault_18 rfl (lv_at hl 0 rfl) ?_
    refine va_get (D := D) (ci := 0) (v := .int fc) (C := "TableTongueModel") (T := al_TX12) (N := 160) hx hb hts hin hown hK hP 0 rfl rfl 4 (by decide) (hts (.fieldLink "TableTongueModel" 618 "TableTongueModel" "faultCode" "I") (List.mem_cons_of_mem _ (lw_in 3073 (by decide +kernel) (by decide +kernel)))) (fun _ h9 => h9) hfs2_4 ld_X12_fault_19 ?_
    refine lv_if_eq (tgt := 32) hx hb ld_X12_fault_22 (by decide) (fun _ => ?_) (fun z => absurd hfc z)
    refine lv_iconst (v := (-1)) hx hb ld_X12_fault_32 (by decide) ?_
    refine lv_goto (tgt := 51) hx hb ld_X12_fault_33 (by decide) ?_
    subst efs2
    exact W.iret (v := (-1)) hx hb hr (fun t ht hW => ⟨⟨(-1), (), rfl, rfl, by rw [ht]; exact hP, va_K.moved hW.alike hK, hD⟩, hS.F ht⟩) hS.2.2 ld_X12_fault_51
set_option maxHeartbeats 4000000 in
set_option maxRecDepth 100000 in
theorem um_X12_fault_at (l : Launch) (D : va_G) (q0 sz : Nat) (fs : List Value) (hl0 : fs.length = 160) {tv zs fc fa fl cv : Int32} (hf0 : fs[0]? = some (.int tv)) (hf2 : fs[2]? = some (.int zs)) (hf3 : fs[3]? = some (.int cv)) (hf4 : fs[4]? = some (.int fc)) (hf5 : fs[5]? = some (.int fa)) (hf6 : fs[6]? = some (.int fl)) (a1 : Int32) (hok : a1 = 0) (hfc : ¬ fc = 0) : Met l ly_X12_fault (lw_w ly_X12_fault prog_14_method_107_code 2 (some .int)) ({ frames := 2, cells := 0, slots := 0, locals := 80 }) (lw_PM D q0 fs sz [.ref q0, .int a1]) (va_Qi (S := Unit) (fun r _ => r = fa) (fun _ U => va_P D al_cl [(q0, .inr (0, (fs.set 0 (.int 0))))] U.heap ∧ va_K D al_cl [] U ∧ va_D (va_A [(q0, .inr (0, fs))] sz) [(q0, .inr (0, (fs.set 0 (.int 0))))]) (va_A [(q0, .inr (0, fs))] sz)) 0 0 (va_A [(q0, .inr (0, fs))] sz) := by
  refine Met.ofW (cc := prog_14_method_107_code) (maxL := 2) (ret := (some .int)) (by decide) rfl ?_
  intro p e s m args below meth c s₁ B hml hv
  obtain ⟨rfl, hsz, hP, hK, hD0⟩ := hv
  subst hsz
  have hx := B.exec
  have hb := B.bytes
  have hr := B.returns
  have hts := atoms_spec (ws := lw_w ly_X12_fault prog_14_method_107_code 2 (some .int)) B.pre
  have hin : ∀ w ∈ u_ws "TableTongueModel" al_TX12 160, w ∈ lw_w ly_X12_fault prog_14_method_107_code 2 (some .int) := fun w hw => List.mem_cons_of_mem _ (lw_u (ci := 0) rfl w hw)
  have hown : s.vm.findClass "TableTongueModel" = some m.cls := findClass_of_methodNamed B.named
  have hD := hD0.self (sz := s.heap.size)
  generalize hAe : va_A [(q0, .inr (0, fs))] s.heap.size = A at hD ⊢
  have hA : ∀ q : Nat, s.heap.size ≤ q → A q := fun q h => by rw [← hAe]; exact Or.inr h
  have hS : va_S A s.heap s.heap [] := va_S.rf
  have hl := lv_entry ([.ref q0, .int a1]) (n := 2) (Nat.le_of_ble_eq_true rfl)
  rw [lg_entry_eq]
  generalize (lg_sl ([.ref q0, .int a1]) ++ List.replicate (2 - (lg_sl ([.ref q0, .int a1])).length) Slot.unset).toArray = ls at hl ⊢
  have hl : lv_has ls 2 [(0, .ref q0), (1, .int a1)] := hl
  refine lv_aload_n hx hb ld_X12_fault_0 rfl (lv_at hl 0 rfl) ?_
  refine lv_iload_n hx hb ld_X12_fault_1 rfl (lv_at hl 1 rfl) ?_
  refine lv_if_eq (tgt := 10) hx hb ld_X12_fault_2 (by decide) (fun _ => ?_) (fun z => absurd hok z)
  refine lv_iconst (v := 0) hx hb ld_X12_fault_10 (by decide) ?_
  refine lv_goto (tgt := 15) hx hb ld_X12_fault_11 (by decide) ?_
  refine va_put (D := D) (ci := 0) (v := .int 0) (ty := .int) (C := "TableTongueModel") (T := al_TX12) (N := 160) hx hb hts hin (al_tyf 0) (al_Cls.2 0 _ _ _ rfl).2.1 (al_Cls.2 0 _ _ _ rfl).2.2 hown hK hP hD hS 0 rfl rfl 0 (by decide) (hts (.fieldLink "TableTongueModel" 335 "TableTongueModel" "thrown" "I") (List.mem_cons_of_mem _ (lw_in 3069 (by decide +kernel) (by decide +kernel)))) (fun _ h9 => h9) rfl (by decide +kernel) rfl rfl (by omega) ld_X12_fault_15 (fun H locs hP hD hS => ?_)
  obtain ⟨fs3, efs3⟩ : ∃ z, z = fs.set 0 (.int 0) := ⟨_, rfl⟩
  have hP : va_P D al_cl [(q0, .inr (0, fs3))] H := by rw [efs3]; exact hP
  have hD : va_D A [(q0, .inr (0, fs3))] := by rw [efs3]; exact hD
  have hfs3_2 : fs3[2]? = some (.int zs) := by rw [efs3, List.getElem?_set_ne (by decide)]; exact hf2
  have hfs3_3 : fs3[3]? = some (.int cv) := by rw [efs3, List.getElem?_set_ne (by decide)]; exact hf3
  have hfs3_4 : fs3[4]? = some (.int fc) := by rw [efs3, List.getElem?_set_ne (by decide)]; exact hf4
  have hfs3_5 : fs3[5]? = some (.int fa) := by rw [efs3, List.getElem?_set_ne (by decide)]; exact hf5
  have hfs3_6 : fs3[6]? = some (.int fl) := by rw [efs3, List.getElem?_set_ne (by decide)]; exact hf6
  have hfs3_0 : fs3[0]? = some (.int 0) := by rw [efs3]; exact List.getElem?_set_self (by omega)
  have hlfs3 : fs3.length = 160 := by rw [efs3, List.length_set]; exact hl0
  refine lv_aload_n hx hb ld_X12_fault_18 rfl (lv_at hl 0 rfl) ?_
  refine va_get (D := D) (ci := 0) (v := .int fc) (C := "TableTongueModel") (T := al_TX12) (N := 160) hx hb hts hin hown hK hP 0 rfl rfl 4 (by decide) (hts (.fieldLink "TableTongueModel" 618 "TableTongueModel" "faultCode" "I") (List.mem_cons_of_mem _ (lw_in 3073 (by decide +kernel) (by decide +kernel)))) (fun _ h9 => h9) hfs3_4 ld_X12_fault_19 ?_
  refine lv_if_eq (tgt := 32) hx hb ld_X12_fault_22 (by decide) (fun z => absurd z hfc) (fun _ => ?_)
  refine lv_aload_n hx hb ld_X12_fault_25 rfl (lv_at hl 0 rfl) ?_
  refine va_get (D := D) (ci := 0) (v := .int 0) (C := "TableTongueModel") (T := al_TX12) (N := 160) hx hb hts hin hown hK hP 0 rfl rfl 0 (by decide) (hts (.fieldLink "TableTongueModel" 335 "TableTongueModel" "thrown" "I") (List.mem_cons_of_mem _ (lw_in 3069 (by decide +kernel) (by decide +kernel)))) (fun _ h9 => h9) hfs3_0 ld_X12_fault_26 ?_
  refine lv_if_le (tgt := 36) hx hb ld_X12_fault_29 (by decide) (fun _ => ?_) (fun z => absurd z (by decide))
  refine lv_iload_n hx hb ld_X12_fault_36 rfl (lv_at hl 1 rfl) ?_
  refine lv_if_ne (tgt := 47) hx hb ld_X12_fault_37 (by decide) (fun z => absurd hok z) (fun _ => ?_)
  refine lv_aload_n hx hb ld_X12_fault_40 rfl (lv_at hl 0 rfl) ?_
  refine va_get (D := D) (ci := 0) (v := .int fa) (C := "TableTongueModel") (T := al_TX12) (N := 160) hx hb hts hin hown hK hP 0 rfl rfl 5 (by decide) (hts (.fieldLink "TableTongueModel" 621 "TableTongueModel" "faultAt" "I") (List.mem_cons_of_mem _ (lw_in 3074 (by decide +kernel) (by decide +kernel)))) (fun _ h9 => h9) hfs3_5 ld_X12_fault_41 ?_
  refine lv_goto (tgt := 51) hx hb ld_X12_fault_44 (by decide) ?_
  subst efs3
  exact W.iret (v := fa) hx hb hr (fun t ht hW => ⟨⟨fa, (), rfl, rfl, by rw [ht]; exact hP, va_K.moved hW.alike hK, hD⟩, hS.F ht⟩) hS.2.2 ld_X12_fault_51
set_option maxHeartbeats 4000000 in
set_option maxRecDepth 100000 in
theorem um_X12_fault_line (l : Launch) (D : va_G) (q0 sz : Nat) (fs : List Value) (hl0 : fs.length = 160) {tv zs fc fa fl cv : Int32} (hf0 : fs[0]? = some (.int tv)) (hf2 : fs[2]? = some (.int zs)) (hf3 : fs[3]? = some (.int cv)) (hf4 : fs[4]? = some (.int fc)) (hf5 : fs[5]? = some (.int fa)) (hf6 : fs[6]? = some (.int fl)) (a1 : Int32) (hok : a1 = 1) (hfc : ¬ fc = 0) : Met l ly_X12_fault (lw_w ly_X12_fault prog_14_method_107_code 2 (some .int)) ({ frames := 2, cells := 0, slots := 0, locals := 80 }) (lw_PM D q0 fs sz [.ref q0, .int a1]) (va_Qi (S := Unit) (fun r _ => r = fl) (fun _ U => va_P D al_cl [(q0, .inr (0, (fs.set 0 (.int 0))))] U.heap ∧ va_K D al_cl [] U ∧ va_D (va_A [(q0, .inr (0, fs))] sz) [(q0, .inr (0, (fs.set 0 (.int 0))))]) (va_A [(q0, .inr (0, fs))] sz)) 0 0 (va_A [(q0, .inr (0, fs))] sz) := by
  refine Met.ofW (cc := prog_14_method_107_code) (maxL := 2) (ret := (some .int)) (by decide) rfl ?_
  intro p e s m args below meth c s₁ B hml hv
  obtain ⟨rfl, hsz, hP, hK, hD0⟩ := hv
  subst hsz
  have hx := B.exec
  have hb := B.bytes
  have hr := B.returns
  have hts := atoms_spec (ws := lw_w ly_X12_fault prog_14_method_107_code 2 (some .int)) B.pre
  have hin : ∀ w ∈ u_ws "TableTongueModel" al_TX12 160, w ∈ lw_w ly_X12_fault prog_14_method_107_code 2 (some .int) := fun w hw => List.mem_cons_of_mem _ (lw_u (ci := 0) rfl w hw)
  have hown : s.vm.findClass "TableTongueModel" = some m.cls := findClass_of_methodNamed B.named
  have hD := hD0.self (sz := s.heap.size)
  generalize hAe : va_A [(q0, .inr (0, fs))] s.heap.size = A at hD ⊢
  have hA : ∀ q : Nat, s.heap.size ≤ q → A q := fun q h => by rw [← hAe]; exact Or.inr h
  have hS : va_S A s.heap s.heap [] := va_S.rf
  have hl := lv_entry ([.ref q0, .int a1]) (n := 2) (Nat.le_of_ble_eq_true rfl)
  rw [lg_entry_eq]
  generalize (lg_sl ([.ref q0, .int a1]) ++ List.replicate (2 - (lg_sl ([.ref q0, .int a1])).length) Slot.unset).toArray = ls at hl ⊢
  have hl : lv_has ls 2 [(0, .ref q0), (1, .int a1)] := hl
  refine lv_aload_n hx hb ld_X12_fault_0 rfl (lv_at hl 0 rfl) ?_
  refine lv_iload_n hx hb ld_X12_fault_1 rfl (lv_at hl 1 rfl) ?_
  refine lv_if_eq (tgt := 10) hx hb ld_X12_fault_2 (by decide) (fun z => absurd z (show ¬ a1 = 0 by rw [hok]; decide)) (fun _ => ?_)
  refine lv_iload_n hx hb ld_X12_fault_5 rfl (lv_at hl 1 rfl) ?_
  refine lv_iconst (v := 1) hx hb ld_X12_fault_6 (by decide) ?_
  refine lv_icmp_ne (tgt := 14) hx hb ld_X12_fault_7 (by decide) (fun z => absurd hok z) (fun _ => ?_)
  refine lv_iconst (v := 0) hx hb ld_X12_fault_10 (by decide) ?_
  refine lv_goto (tgt := 15) hx hb ld_X12_fault_11 (by decide) ?_
  refine va_put (D := D) (ci := 0) (v := .int 0) (ty := .int) (C := "TableTongueModel") (T := al_TX12) (N := 160) hx hb hts hin (al_tyf 0) (al_Cls.2 0 _ _ _ rfl).2.1 (al_Cls.2 0 _ _ _ rfl).2.2 hown hK hP hD hS 0 rfl rfl 0 (by decide) (hts (.fieldLink "TableTongueModel" 335 "TableTongueModel" "thrown" "I") (List.mem_cons_of_mem _ (lw_in 3069 (by decide +kernel) (by decide +kernel)))) (fun _ h9 => h9) rfl (by decide +kernel) rfl rfl (by omega) ld_X12_fault_15 (fun H locs hP hD hS => ?_)
  obtain ⟨fs4, efs4⟩ : ∃ z, z = fs.set 0 (.int 0) := ⟨_, rfl⟩
  have hP : va_P D al_cl [(q0, .inr (0, fs4))] H := by rw [efs4]; exact hP
  have hD : va_D A [(q0, .inr (0, fs4))] := by rw [efs4]; exact hD
  have hfs4_2 : fs4[2]? = some (.int zs) := by rw [efs4, List.getElem?_set_ne (by decide)]; exact hf2
  have hfs4_3 : fs4[3]? = some (.int cv) := by rw [efs4, List.getElem?_set_ne (by decide)]; exact hf3
  have hfs4_4 : fs4[4]? = some (.int fc) := by rw [efs4, List.getElem?_set_ne (by decide)]; exact hf4
  have hfs4_5 : fs4[5]? = some (.int fa) := by rw [efs4, List.getElem?_set_ne (by decide)]; exact hf5
  have hfs4_6 : fs4[6]? = some (.int fl) := by rw [efs4, List.getElem?_set_ne (by decide)]; exact hf6
  have hfs4_0 : fs4[0]? = some (.int 0) := by rw [efs4]; exact List.getElem?_set_self (by omega)
  have hlfs4 : fs4.length = 160 := by rw [efs4, List.length_set]; exact hl0
  refine lv_aload_n hx hb ld_X12_fault_18 rfl (lv_at hl 0 rfl) ?_
  refine va_get (D := D) (ci := 0) (v := .int fc) (C := "TableTongueModel") (T := al_TX12) (N := 160) hx hb hts hin hown hK hP 0 rfl rfl 4 (by decide) (hts (.fieldLink "TableTongueModel" 618 "TableTongueModel" "faultCode" "I") (List.mem_cons_of_mem _ (lw_in 3073 (by decide +kernel) (by decide +kernel)))) (fun _ h9 => h9) hfs4_4 ld_X12_fault_19 ?_
  refine lv_if_eq (tgt := 32) hx hb ld_X12_fault_22 (by decide) (fun z => absurd z hfc) (fun _ => ?_)
  refine lv_aload_n hx hb ld_X12_fault_25 rfl (lv_at hl 0 rfl) ?_
  refine va_get (D := D) (ci := 0) (v := .int 0) (C := "TableTongueModel") (T := al_TX12) (N := 160) hx hb hts hin hown hK hP 0 rfl rfl 0 (by decide) (hts (.fieldLink "TableTongueModel" 335 "TableTongueModel" "thrown" "I") (List.mem_cons_of_mem _ (lw_in 3069 (by decide +kernel) (by decide +kernel)))) (fun _ h9 => h9) hfs4_0 ld_X12_fault_26 ?_
  refine lv_if_le (tgt := 36) hx hb ld_X12_fault_29 (by decide) (fun _ => ?_) (fun z => absurd z (by decide))
  refine lv_iload_n hx hb ld_X12_fault_36 rfl (lv_at hl 1 rfl) ?_
  refine lv_if_ne (tgt := 47) hx hb ld_X12_fault_37 (by decide) (fun _ => ?_) (fun z => absurd z (show ¬ a1 = 0 by rw [hok]; decide))
  refine lv_aload_n hx hb ld_X12_fault_47 rfl (lv_at hl 0 rfl) ?_
  refine va_get (D := D) (ci := 0) (v := .int fl) (C := "TableTongueModel") (T := al_TX12) (N := 160) hx hb hts hin hown hK hP 0 rfl rfl 6 (by decide) (hts (.fieldLink "TableTongueModel" 919 "TableTongueModel" "faultLine" "I") (List.mem_cons_of_mem _ (lw_in 3075 (by decide +kernel) (by decide +kernel)))) (fun _ h9 => h9) hfs4_6 ld_X12_fault_48 ?_
  subst efs4
  exact W.iret (v := fl) hx hb hr (fun t ht hW => ⟨⟨fl, (), rfl, rfl, by rw [ht]; exact hP, va_K.moved hW.alike hK, hD⟩, hS.F ht⟩) hS.2.2 ld_X12_fault_51
set_option maxHeartbeats 4000000 in
set_option maxRecDepth 100000 in
theorem um_X12_fault_bad (l : Launch) (D : va_G) (q0 sz : Nat) (fs : List Value) (hl0 : fs.length = 160) {tv zs fc fa fl cv : Int32} (hf0 : fs[0]? = some (.int tv)) (hf2 : fs[2]? = some (.int zs)) (hf3 : fs[3]? = some (.int cv)) (hf4 : fs[4]? = some (.int fc)) (hf5 : fs[5]? = some (.int fa)) (hf6 : fs[6]? = some (.int fl)) (a1 : Int32) (hb0 : ¬ a1 = 0) (hb1 : ¬ a1 = 1) : Met l ly_X12_fault (lw_w ly_X12_fault prog_14_method_107_code 2 (some .int)) ({ frames := 2, cells := 0, slots := 0, locals := 80 }) (lw_PM D q0 fs sz [.ref q0, .int a1]) (va_Qi (S := Unit) (fun r _ => r = -1) (fun _ U => va_P D al_cl [(q0, .inr (0, (fs.set 0 (.int 1))))] U.heap ∧ va_K D al_cl [] U ∧ va_D (va_A [(q0, .inr (0, fs))] sz) [(q0, .inr (0, (fs.set 0 (.int 1))))]) (va_A [(q0, .inr (0, fs))] sz)) 0 0 (va_A [(q0, .inr (0, fs))] sz) := by
  refine Met.ofW (cc := prog_14_method_107_code) (maxL := 2) (ret := (some .int)) (by decide) rfl ?_
  intro p e s m args below meth c s₁ B hml hv
  obtain ⟨rfl, hsz, hP, hK, hD0⟩ := hv
  subst hsz
  have hx := B.exec
  have hb := B.bytes
  have hr := B.returns
  have hts := atoms_spec (ws := lw_w ly_X12_fault prog_14_method_107_code 2 (some .int)) B.pre
  have hin : ∀ w ∈ u_ws "TableTongueModel" al_TX12 160, w ∈ lw_w ly_X12_fault prog_14_method_107_code 2 (some .int) := fun w hw => List.mem_cons_of_mem _ (lw_u (ci := 0) rfl w hw)
  have hown : s.vm.findClass "TableTongueModel" = some m.cls := findClass_of_methodNamed B.named
  have hD := hD0.self (sz := s.heap.size)
  generalize hAe : va_A [(q0, .inr (0, fs))] s.heap.size = A at hD ⊢
  have hA : ∀ q : Nat, s.heap.size ≤ q → A q := fun q h => by rw [← hAe]; exact Or.inr h
  have hS : va_S A s.heap s.heap [] := va_S.rf
  have hl := lv_entry ([.ref q0, .int a1]) (n := 2) (Nat.le_of_ble_eq_true rfl)
  rw [lg_entry_eq]
  generalize (lg_sl ([.ref q0, .int a1]) ++ List.replicate (2 - (lg_sl ([.ref q0, .int a1])).length) Slot.unset).toArray = ls at hl ⊢
  have hl : lv_has ls 2 [(0, .ref q0), (1, .int a1)] := hl
  refine lv_aload_n hx hb ld_X12_fault_0 rfl (lv_at hl 0 rfl) ?_
  refine lv_iload_n hx hb ld_X12_fault_1 rfl (lv_at hl 1 rfl) ?_
  refine lv_if_eq (tgt := 10) hx hb ld_X12_fault_2 (by decide) (fun z => absurd z hb0) (fun _ => ?_)
  refine lv_iload_n hx hb ld_X12_fault_5 rfl (lv_at hl 1 rfl) ?_
  refine lv_iconst (v := 1) hx hb ld_X12_fault_6 (by decide) ?_
  refine lv_icmp_ne (tgt := 14) hx hb ld_X12_fault_7 (by decide) (fun _ => ?_) (fun z => absurd z hb1)
  refine lv_iconst (v := 1) hx hb ld_X12_fault_14 (by decide) ?_
  refine va_put (D := D) (ci := 0) (v := .int 1) (ty := .int) (C := "TableTongueModel") (T := al_TX12) (N := 160) hx hb hts hin (al_tyf 0) (al_Cls.2 0 _ _ _ rfl).2.1 (al_Cls.2 0 _ _ _ rfl).2.2 hown hK hP hD hS 0 rfl rfl 0 (by decide) (hts (.fieldLink "TableTongueModel" 335 "TableTongueModel" "thrown" "I") (List.mem_cons_of_mem _ (lw_in 3069 (by decide +kernel) (by decide +kernel)))) (fun _ h9 => h9) rfl (by decide +kernel) rfl rfl (by omega) ld_X12_fault_15 (fun H locs hP hD hS => ?_)
  obtain ⟨fs5, efs5⟩ : ∃ z, z = fs.set 0 (.int 1) := ⟨_, rfl⟩
  have hP : va_P D al_cl [(q0, .inr (0, fs5))] H := by rw [efs5]; exact hP
  have hD : va_D A [(q0, .inr (0, fs5))] := by rw [efs5]; exact hD
  have hfs5_2 : fs5[2]? = some (.int zs) := by rw [efs5, List.getElem?_set_ne (by decide)]; exact hf2
  have hfs5_3 : fs5[3]? = some (.int cv) := by rw [efs5, List.getElem?_set_ne (by decide)]; exact hf3
  have hfs5_4 : fs5[4]? = some (.int fc) := by rw [efs5, List.getElem?_set_ne (by decide)]; exact hf4
  have hfs5_5 : fs5[5]? = some (.int fa) := by rw [efs5, List.getElem?_set_ne (by decide)]; exact hf5
  have hfs5_6 : fs5[6]? = some (.int fl) := by rw [efs5, List.getElem?_set_ne (by decide)]; exact hf6
  have hfs5_0 : fs5[0]? = some (.int 1) := by rw [efs5]; exact List.getElem?_set_self (by omega)
  have hlfs5 : fs5.length = 160 := by rw [efs5, List.length_set]; exact hl0
  refine lv_aload_n hx hb ld_X12_fault_18 rfl (lv_at hl 0 rfl) ?_
  refine va_get (D := D) (ci := 0) (v := .int fc) (C := "TableTongueModel") (T := al_TX12) (N := 160) hx hb hts hin hown hK hP 0 rfl rfl 4 (by decide) (hts (.fieldLink "TableTongueModel" 618 "TableTongueModel" "faultCode" "I") (List.mem_cons_of_mem _ (lw_in 3073 (by decide +kernel) (by decide +kernel)))) (fun _ h9 => h9) hfs5_4 ld_X12_fault_19 ?_
  refine lv_if_eq (tgt := 32) hx hb ld_X12_fault_22 (by decide) (fun c_1 => ?_) (fun c_1 => ?_)
  · skip
    refine lv_iconst (v := (-1)) hx hb ld_X12_fault_32 (by decide) ?_
    refine lv_goto (tgt := 51) hx hb ld_X12_fault_33 (by decide) ?_
    subst efs5
    exact W.iret (v := (-1)) hx hb hr (fun t ht hW => ⟨⟨(-1), (), rfl, rfl, by rw [ht]; exact hP, va_K.moved hW.alike hK, hD⟩, hS.F ht⟩) hS.2.2 ld_X12_fault_51
  · skip
    refine lv_aload_n hx hb ld_X12_fault_25 rfl (lv_at hl 0 rfl) ?_
    refine va_get (D := D) (ci := 0) (v := .int 1) (C := "TableTongueModel") (T := al_TX12) (N := 160) hx hb hts hin hown hK hP 0 rfl rfl 0 (by decide) (hts (.fieldLink "TableTongueModel" 335 "TableTongueModel" "thrown" "I") (List.mem_cons_of_mem _ (lw_in 3069 (by decide +kernel) (by decide +kernel)))) (fun _ h9 => h9) hfs5_0 ld_X12_fault_26 ?_
    refine lv_if_le (tgt := 36) hx hb ld_X12_fault_29 (by decide) (fun z => absurd z (by decide)) (fun _ => ?_)
    refine lv_iconst (v := (-1)) hx hb ld_X12_fault_32 (by decide) ?_
    refine lv_goto (tgt := 51) hx hb ld_X12_fault_33 (by decide) ?_
    subst efs5
    exact W.iret (v := (-1)) hx hb hr (fun t ht hW => ⟨⟨(-1), (), rfl, rfl, by rw [ht]; exact hP, va_K.moved hW.alike hK, hD⟩, hS.F ht⟩) hS.2.2 ld_X12_fault_51
set_option maxHeartbeats 4000000 in
set_option maxRecDepth 100000 in
theorem um_X12_wipe (l : Launch) (D : va_G) (q0 sz : Nat) (fs : List Value) (hl0 : fs.length = 160) {tv zs fc fa fl cv : Int32} (hf0 : fs[0]? = some (.int tv)) (hf2 : fs[2]? = some (.int zs)) (hf3 : fs[3]? = some (.int cv)) (hf4 : fs[4]? = some (.int fc)) (hf5 : fs[5]? = some (.int fa)) (hf6 : fs[6]? = some (.int fl))   : Met l ly_X12_wipe (lw_w ly_X12_wipe prog_14_method_12_code 2 (some .int)) ({ frames := 2, cells := 0, slots := 0, locals := 80 }) (lw_PM D q0 fs sz [.ref q0]) (va_Qi (S := Unit) (fun r _ => r = zs) (fun _ U => va_P D al_cl [(q0, .inr (0, (((fs.set 0 (.int 0)).set 2 (.int 0)).set 3 (.int 0))))] U.heap ∧ va_K D al_cl [] U ∧ va_D (va_A [(q0, .inr (0, fs))] sz) [(q0, .inr (0, (((fs.set 0 (.int 0)).set 2 (.int 0)).set 3 (.int 0))))]) (va_A [(q0, .inr (0, fs))] sz)) 0 0 (va_A [(q0, .inr (0, fs))] sz) := by
  refine Met.ofW (cc := prog_14_method_12_code) (maxL := 2) (ret := (some .int)) (by decide) rfl ?_
  intro p e s m args below meth c s₁ B hml hv
  obtain ⟨rfl, hsz, hP, hK, hD0⟩ := hv
  subst hsz
  have hx := B.exec
  have hb := B.bytes
  have hr := B.returns
  have hts := atoms_spec (ws := lw_w ly_X12_wipe prog_14_method_12_code 2 (some .int)) B.pre
  have hin : ∀ w ∈ u_ws "TableTongueModel" al_TX12 160, w ∈ lw_w ly_X12_wipe prog_14_method_12_code 2 (some .int) := fun w hw => List.mem_cons_of_mem _ (lw_u (ci := 0) rfl w hw)
  have hown : s.vm.findClass "TableTongueModel" = some m.cls := findClass_of_methodNamed B.named
  have hD := hD0.self (sz := s.heap.size)
  generalize hAe : va_A [(q0, .inr (0, fs))] s.heap.size = A at hD ⊢
  have hA : ∀ q : Nat, s.heap.size ≤ q → A q := fun q h => by rw [← hAe]; exact Or.inr h
  have hS : va_S A s.heap s.heap [] := va_S.rf
  have hl := lv_entry ([.ref q0]) (n := 2) (Nat.le_of_ble_eq_true rfl)
  rw [lg_entry_eq]
  generalize (lg_sl ([.ref q0]) ++ List.replicate (2 - (lg_sl ([.ref q0])).length) Slot.unset).toArray = ls at hl ⊢
  have hl : lv_has ls 2 [(0, .ref q0)] := hl
  refine lv_aload_n hx hb ld_X12_wipe_0 rfl (lv_at hl 0 rfl) ?_
  refine lv_iconst (v := 0) hx hb ld_X12_wipe_1 (by decide) ?_
  refine va_put (D := D) (ci := 0) (v := .int 0) (ty := .int) (C := "TableTongueModel") (T := al_TX12) (N := 160) hx hb hts hin (al_tyf 0) (al_Cls.2 0 _ _ _ rfl).2.1 (al_Cls.2 0 _ _ _ rfl).2.2 hown hK hP hD hS 0 rfl rfl 0 (by decide) (hts (.fieldLink "TableTongueModel" 335 "TableTongueModel" "thrown" "I") (List.mem_cons_of_mem _ (lw_in 3069 (by decide +kernel) (by decide +kernel)))) (fun _ h9 => h9) rfl (by decide +kernel) rfl rfl (by omega) ld_X12_wipe_2 (fun H locs hP hD hS => ?_)
  obtain ⟨fs6, efs6⟩ : ∃ z, z = fs.set 0 (.int 0) := ⟨_, rfl⟩
  have hP : va_P D al_cl [(q0, .inr (0, fs6))] H := by rw [efs6]; exact hP
  have hD : va_D A [(q0, .inr (0, fs6))] := by rw [efs6]; exact hD
  have hfs6_2 : fs6[2]? = some (.int zs) := by rw [efs6, List.getElem?_set_ne (by decide)]; exact hf2
  have hfs6_3 : fs6[3]? = some (.int cv) := by rw [efs6, List.getElem?_set_ne (by decide)]; exact hf3
  have hfs6_4 : fs6[4]? = some (.int fc) := by rw [efs6, List.getElem?_set_ne (by decide)]; exact hf4
  have hfs6_5 : fs6[5]? = some (.int fa) := by rw [efs6, List.getElem?_set_ne (by decide)]; exact hf5
  have hfs6_6 : fs6[6]? = some (.int fl) := by rw [efs6, List.getElem?_set_ne (by decide)]; exact hf6
  have hfs6_0 : fs6[0]? = some (.int 0) := by rw [efs6]; exact List.getElem?_set_self (by omega)
  have hlfs6 : fs6.length = 160 := by rw [efs6, List.length_set]; exact hl0
  refine lv_aload_n hx hb ld_X12_wipe_5 rfl (lv_at hl 0 rfl) ?_
  refine va_get (D := D) (ci := 0) (v := .int zs) (C := "TableTongueModel") (T := al_TX12) (N := 160) hx hb hts hin hown hK hP 0 rfl rfl 2 (by decide) (hts (.fieldLink "TableTongueModel" 506 "TableTongueModel" "size" "I") (List.mem_cons_of_mem _ (lw_in 3071 (by decide +kernel) (by decide +kernel)))) (fun _ h9 => h9) hfs6_2 ld_X12_wipe_6 ?_
  refine lv_istore_n (lv' := [(1, .int zs), (0, .ref q0)]) hx hb ld_X12_wipe_9 rfl hl (by decide) rfl (fun ls hl => ?_)
  refine lv_aload_n hx hb ld_X12_wipe_10 rfl (lv_at hl 1 rfl) ?_
  refine lv_iconst (v := 0) hx hb ld_X12_wipe_11 (by decide) ?_
  refine va_put (D := D) (ci := 0) (v := .int 0) (ty := .int) (C := "TableTongueModel") (T := al_TX12) (N := 160) hx hb hts hin (al_tyf 0) (al_Cls.2 0 _ _ _ rfl).2.1 (al_Cls.2 0 _ _ _ rfl).2.2 hown hK hP hD hS 0 rfl rfl 2 (by decide) (hts (.fieldLink "TableTongueModel" 506 "TableTongueModel" "size" "I") (List.mem_cons_of_mem _ (lw_in 3071 (by decide +kernel) (by decide +kernel)))) (fun _ h9 => h9) rfl (by decide +kernel) rfl rfl (by omega) ld_X12_wipe_12 (fun H locs hP hD hS => ?_)
  obtain ⟨fs7, efs7⟩ : ∃ z, z = fs6.set 2 (.int 0) := ⟨_, rfl⟩
  have hP : va_P D al_cl [(q0, .inr (0, fs7))] H := by rw [efs7]; exact hP
  have hD : va_D A [(q0, .inr (0, fs7))] := by rw [efs7]; exact hD
  have hfs7_0 : fs7[0]? = some (.int 0) := by rw [efs7, List.getElem?_set_ne (by decide)]; exact hfs6_0
  have hfs7_3 : fs7[3]? = some (.int cv) := by rw [efs7, List.getElem?_set_ne (by decide)]; exact hfs6_3
  have hfs7_4 : fs7[4]? = some (.int fc) := by rw [efs7, List.getElem?_set_ne (by decide)]; exact hfs6_4
  have hfs7_5 : fs7[5]? = some (.int fa) := by rw [efs7, List.getElem?_set_ne (by decide)]; exact hfs6_5
  have hfs7_6 : fs7[6]? = some (.int fl) := by rw [efs7, List.getElem?_set_ne (by decide)]; exact hfs6_6
  have hfs7_2 : fs7[2]? = some (.int 0) := by rw [efs7]; exact List.getElem?_set_self (by omega)
  have hlfs7 : fs7.length = 160 := by rw [efs7, List.length_set]; exact hlfs6
  refine lv_aload_n hx hb ld_X12_wipe_15 rfl (lv_at hl 1 rfl) ?_
  refine lv_iconst (v := 0) hx hb ld_X12_wipe_16 (by decide) ?_
  refine va_put (D := D) (ci := 0) (v := .int 0) (ty := .boolean) (C := "TableTongueModel") (T := al_TX12) (N := 160) hx hb hts hin (al_tyf 0) (al_Cls.2 0 _ _ _ rfl).2.1 (al_Cls.2 0 _ _ _ rfl).2.2 hown hK hP hD hS 0 rfl rfl 3 (by decide) (hts (.fieldLink "TableTongueModel" 509 "TableTongueModel" "compiled" "Z") (List.mem_cons_of_mem _ (lw_in 3072 (by decide +kernel) (by decide +kernel)))) (fun _ h9 => h9) rfl (by decide +kernel) rfl rfl (by omega) ld_X12_wipe_17 (fun H locs hP hD hS => ?_)
  obtain ⟨fs8, efs8⟩ : ∃ z, z = fs7.set 3 (.int 0) := ⟨_, rfl⟩
  have hP : va_P D al_cl [(q0, .inr (0, fs8))] H := by rw [efs8]; exact hP
  have hD : va_D A [(q0, .inr (0, fs8))] := by rw [efs8]; exact hD
  have hfs8_0 : fs8[0]? = some (.int 0) := by rw [efs8, List.getElem?_set_ne (by decide)]; exact hfs7_0
  have hfs8_2 : fs8[2]? = some (.int 0) := by rw [efs8, List.getElem?_set_ne (by decide)]; exact hfs7_2
  have hfs8_4 : fs8[4]? = some (.int fc) := by rw [efs8, List.getElem?_set_ne (by decide)]; exact hfs7_4
  have hfs8_5 : fs8[5]? = some (.int fa) := by rw [efs8, List.getElem?_set_ne (by decide)]; exact hfs7_5
  have hfs8_6 : fs8[6]? = some (.int fl) := by rw [efs8, List.getElem?_set_ne (by decide)]; exact hfs7_6
  have hfs8_3 : fs8[3]? = some (.int 0) := by rw [efs8]; exact List.getElem?_set_self (by omega)
  have hlfs8 : fs8.length = 160 := by rw [efs8, List.length_set]; exact hlfs7
  refine lv_iload_n hx hb ld_X12_wipe_20 rfl (lv_at hl 0 rfl) ?_
  subst efs8
  subst efs7
  subst efs6
  exact W.iret (v := zs) hx hb hr (fun t ht hW => ⟨⟨zs, (), rfl, rfl, by rw [ht]; exact hP, va_K.moved hW.alike hK, hD⟩, hS.F ht⟩) hS.2.2 ld_X12_wipe_21
set_option maxHeartbeats 4000000 in
set_option maxRecDepth 100000 in
theorem um_X12_feed_bad (l : Launch) (D : va_G) (q0 sz : Nat) (fs : List Value) (hl0 : fs.length = 160) {tv zs fc fa fl cv : Int32} (hf0 : fs[0]? = some (.int tv)) (hf2 : fs[2]? = some (.int zs)) (hf3 : fs[3]? = some (.int cv)) (hf4 : fs[4]? = some (.int fc)) (hf5 : fs[5]? = some (.int fa)) (hf6 : fs[6]? = some (.int fl)) (a1 : Int32) (a2 : Int64) (hbad : a1 < 1 ∨ 8 < a1 ∨ ¬ zs + a1 ≤ 6000) : Met l ly_X12_feed (lw_w ly_X12_feed prog_14_method_11_code 5 (some .int)) ({ frames := 2, cells := 0, slots := 0, locals := 80 }) (lw_PM D q0 fs sz [.ref q0, .int a1, .long a2]) (va_Qi (S := Unit) (fun r _ => r = 0) (fun _ U => va_P D al_cl [(q0, .inr (0, (fs.set 0 (.int 1))))] U.heap ∧ va_K D al_cl [] U ∧ va_D (va_A [(q0, .inr (0, fs))] sz) [(q0, .inr (0, (fs.set 0 (.int 1))))]) (va_A [(q0, .inr (0, fs))] sz)) 0 0 (va_A [(q0, .inr (0, fs))] sz) := by
  refine Met.ofW (cc := prog_14_method_11_code) (maxL := 5) (ret := (some .int)) (by decide) rfl ?_
  intro p e s m args below meth c s₁ B hml hv
  obtain ⟨rfl, hsz, hP, hK, hD0⟩ := hv
  subst hsz
  have hx := B.exec
  have hb := B.bytes
  have hr := B.returns
  have hts := atoms_spec (ws := lw_w ly_X12_feed prog_14_method_11_code 5 (some .int)) B.pre
  have hin : ∀ w ∈ u_ws "TableTongueModel" al_TX12 160, w ∈ lw_w ly_X12_feed prog_14_method_11_code 5 (some .int) := fun w hw => List.mem_cons_of_mem _ (lw_u (ci := 0) rfl w hw)
  have hown : s.vm.findClass "TableTongueModel" = some m.cls := findClass_of_methodNamed B.named
  have hD := hD0.self (sz := s.heap.size)
  generalize hAe : va_A [(q0, .inr (0, fs))] s.heap.size = A at hD ⊢
  have hA : ∀ q : Nat, s.heap.size ≤ q → A q := fun q h => by rw [← hAe]; exact Or.inr h
  have hS : va_S A s.heap s.heap [] := va_S.rf
  have hl := lv_entry ([.ref q0, .int a1, .long a2]) (n := 5) (Nat.le_of_ble_eq_true rfl)
  rw [lg_entry_eq]
  generalize (lg_sl ([.ref q0, .int a1, .long a2]) ++ List.replicate (5 - (lg_sl ([.ref q0, .int a1, .long a2])).length) Slot.unset).toArray = ls at hl ⊢
  have hl : lv_has ls 5 [(0, .ref q0), (1, .int a1), (2, .long a2)] := hl
  refine lv_aload_n hx hb ld_X12_feed_0 rfl (lv_at hl 0 rfl) ?_
  refine lv_iload_n hx hb ld_X12_feed_1 rfl (lv_at hl 1 rfl) ?_
  refine lv_iconst (v := 1) hx hb ld_X12_feed_2 (by decide) ?_
  refine lv_icmp_lt (tgt := 24) hx hb ld_X12_feed_3 (by decide) (fun c_1 => ?_) (fun c_1 => ?_)
  · skip
    refine lv_iconst (v := 1) hx hb ld_X12_feed_24 (by decide) ?_
    refine lv_goto (tgt := 29) hx hb ld_X12_feed_25 (by decide) ?_
    refine va_put (D := D) (ci := 0) (v := .int 1) (ty := .int) (C := "TableTongueModel") (T := al_TX12) (N := 160) hx hb hts hin (al_tyf 0) (al_Cls.2 0 _ _ _ rfl).2.1 (al_Cls.2 0 _ _ _ rfl).2.2 hown hK hP hD hS 0 rfl rfl 0 (by decide) (hts (.fieldLink "TableTongueModel" 335 "TableTongueModel" "thrown" "I") (List.mem_cons_of_mem _ (lw_in 3069 (by decide +kernel) (by decide +kernel)))) (fun _ h9 => h9) rfl (by decide +kernel) rfl rfl (by omega) ld_X12_feed_29 (fun H locs hP hD hS => ?_)
    obtain ⟨fs9, efs9⟩ : ∃ z, z = fs.set 0 (.int 1) := ⟨_, rfl⟩
    have hP : va_P D al_cl [(q0, .inr (0, fs9))] H := by rw [efs9]; exact hP
    have hD : va_D A [(q0, .inr (0, fs9))] := by rw [efs9]; exact hD
    have hfs9_2 : fs9[2]? = some (.int zs) := by rw [efs9, List.getElem?_set_ne (by decide)]; exact hf2
    have hfs9_3 : fs9[3]? = some (.int cv) := by rw [efs9, List.getElem?_set_ne (by decide)]; exact hf3
    have hfs9_4 : fs9[4]? = some (.int fc) := by rw [efs9, List.getElem?_set_ne (by decide)]; exact hf4
    have hfs9_5 : fs9[5]? = some (.int fa) := by rw [efs9, List.getElem?_set_ne (by decide)]; exact hf5
    have hfs9_6 : fs9[6]? = some (.int fl) := by rw [efs9, List.getElem?_set_ne (by decide)]; exact hf6
    have hfs9_0 : fs9[0]? = some (.int 1) := by rw [efs9]; exact List.getElem?_set_self (by omega)
    have hlfs9 : fs9.length = 160 := by rw [efs9, List.length_set]; exact hl0
    refine lv_aload_n hx hb ld_X12_feed_32 rfl (lv_at hl 0 rfl) ?_
    refine va_get (D := D) (ci := 0) (v := .int 1) (C := "TableTongueModel") (T := al_TX12) (N := 160) hx hb hts hin hown hK hP 0 rfl rfl 0 (by decide) (hts (.fieldLink "TableTongueModel" 335 "TableTongueModel" "thrown" "I") (List.mem_cons_of_mem _ (lw_in 3069 (by decide +kernel) (by decide +kernel)))) (fun _ h9 => h9) hfs9_0 ld_X12_feed_33 ?_
    refine lv_if_le (tgt := 41) hx hb ld_X12_feed_36 (by decide) (fun z => absurd z (by decide)) (fun _ => ?_)
    refine lv_iconst (v := 0) hx hb ld_X12_feed_39 (by decide) ?_
    subst efs9
    exact W.iret (v := 0) hx hb hr (fun t ht hW => ⟨⟨0, (), rfl, rfl, by rw [ht]; exact hP, va_K.moved hW.alike hK, hD⟩, hS.F ht⟩) hS.2.2 ld_X12_feed_40
  · skip
    refine lv_iload_n hx hb ld_X12_feed_6 rfl (lv_at hl 1 rfl) ?_
    refine lv_bipush (v := 8) hx hb ld_X12_feed_7 (by decide) ?_
    refine lv_icmp_gt (tgt := 24) hx hb ld_X12_feed_9 (by decide) (fun c_2 => ?_) (fun c_2 => ?_)
    · skip
      refine lv_iconst (v := 1) hx hb ld_X12_feed_24 (by decide) ?_
      refine lv_goto (tgt := 29) hx hb ld_X12_feed_25 (by decide) ?_
      refine va_put (D := D) (ci := 0) (v := .int 1) (ty := .int) (C := "TableTongueModel") (T := al_TX12) (N := 160) hx hb hts hin (al_tyf 0) (al_Cls.2 0 _ _ _ rfl).2.1 (al_Cls.2 0 _ _ _ rfl).2.2 hown hK hP hD hS 0 rfl rfl 0 (by decide) (hts (.fieldLink "TableTongueModel" 335 "TableTongueModel" "thrown" "I") (List.mem_cons_of_mem _ (lw_in 3069 (by decide +kernel) (by decide +kernel)))) (fun _ h9 => h9) rfl (by decide +kernel) rfl rfl (by omega) ld_X12_feed_29 (fun H locs hP hD hS => ?_)
      obtain ⟨fs10, efs10⟩ : ∃ z, z = fs.set 0 (.int 1) := ⟨_, rfl⟩
      have hP : va_P D al_cl [(q0, .inr (0, fs10))] H := by rw [efs10]; exact hP
      have hD : va_D A [(q0, .inr (0, fs10))] := by rw [efs10]; exact hD
      have hfs10_2 : fs10[2]? = some (.int zs) := by rw [efs10, List.getElem?_set_ne (by decide)]; exact hf2
      have hfs10_3 : fs10[3]? = some (.int cv) := by rw [efs10, List.getElem?_set_ne (by decide)]; exact hf3
      have hfs10_4 : fs10[4]? = some (.int fc) := by rw [efs10, List.getElem?_set_ne (by decide)]; exact hf4
      have hfs10_5 : fs10[5]? = some (.int fa) := by rw [efs10, List.getElem?_set_ne (by decide)]; exact hf5
      have hfs10_6 : fs10[6]? = some (.int fl) := by rw [efs10, List.getElem?_set_ne (by decide)]; exact hf6
      have hfs10_0 : fs10[0]? = some (.int 1) := by rw [efs10]; exact List.getElem?_set_self (by omega)
      have hlfs10 : fs10.length = 160 := by rw [efs10, List.length_set]; exact hl0
      refine lv_aload_n hx hb ld_X12_feed_32 rfl (lv_at hl 0 rfl) ?_
      refine va_get (D := D) (ci := 0) (v := .int 1) (C := "TableTongueModel") (T := al_TX12) (N := 160) hx hb hts hin hown hK hP 0 rfl rfl 0 (by decide) (hts (.fieldLink "TableTongueModel" 335 "TableTongueModel" "thrown" "I") (List.mem_cons_of_mem _ (lw_in 3069 (by decide +kernel) (by decide +kernel)))) (fun _ h9 => h9) hfs10_0 ld_X12_feed_33 ?_
      refine lv_if_le (tgt := 41) hx hb ld_X12_feed_36 (by decide) (fun z => absurd z (by decide)) (fun _ => ?_)
      refine lv_iconst (v := 0) hx hb ld_X12_feed_39 (by decide) ?_
      subst efs10
      exact W.iret (v := 0) hx hb hr (fun t ht hW => ⟨⟨0, (), rfl, rfl, by rw [ht]; exact hP, va_K.moved hW.alike hK, hD⟩, hS.F ht⟩) hS.2.2 ld_X12_feed_40
    · skip
      refine lv_aload_n hx hb ld_X12_feed_12 rfl (lv_at hl 0 rfl) ?_
      refine va_get (D := D) (ci := 0) (v := .int zs) (C := "TableTongueModel") (T := al_TX12) (N := 160) hx hb hts hin hown hK hP 0 rfl rfl 2 (by decide) (hts (.fieldLink "TableTongueModel" 506 "TableTongueModel" "size" "I") (List.mem_cons_of_mem _ (lw_in 3071 (by decide +kernel) (by decide +kernel)))) (fun _ h9 => h9) hf2 ld_X12_feed_13 ?_
      refine lv_iload_n hx hb ld_X12_feed_16 rfl (lv_at hl 1 rfl) ?_
      refine lv_iadd hx hb ld_X12_feed_17 ?_
      refine lv_sipush (v := 6000) hx hb ld_X12_feed_18 (by decide) ?_
      refine lv_icmp_le (tgt := 28) hx hb ld_X12_feed_21 (by decide) (fun z => absurd z ((hbad.resolve_left c_1).resolve_left c_2)) (fun _ => ?_)
      refine lv_iconst (v := 1) hx hb ld_X12_feed_24 (by decide) ?_
      refine lv_goto (tgt := 29) hx hb ld_X12_feed_25 (by decide) ?_
      refine va_put (D := D) (ci := 0) (v := .int 1) (ty := .int) (C := "TableTongueModel") (T := al_TX12) (N := 160) hx hb hts hin (al_tyf 0) (al_Cls.2 0 _ _ _ rfl).2.1 (al_Cls.2 0 _ _ _ rfl).2.2 hown hK hP hD hS 0 rfl rfl 0 (by decide) (hts (.fieldLink "TableTongueModel" 335 "TableTongueModel" "thrown" "I") (List.mem_cons_of_mem _ (lw_in 3069 (by decide +kernel) (by decide +kernel)))) (fun _ h9 => h9) rfl (by decide +kernel) rfl rfl (by omega) ld_X12_feed_29 (fun H locs hP hD hS => ?_)
      obtain ⟨fs11, efs11⟩ : ∃ z, z = fs.set 0 (.int 1) := ⟨_, rfl⟩
      have hP : va_P D al_cl [(q0, .inr (0, fs11))] H := by rw [efs11]; exact hP
      have hD : va_D A [(q0, .inr (0, fs11))] := by rw [efs11]; exact hD
      have hfs11_2 : fs11[2]? = some (.int zs) := by rw [efs11, List.getElem?_set_ne (by decide)]; exact hf2
      have hfs11_3 : fs11[3]? = some (.int cv) := by rw [efs11, List.getElem?_set_ne (by decide)]; exact hf3
      have hfs11_4 : fs11[4]? = some (.int fc) := by rw [efs11, List.getElem?_set_ne (by decide)]; exact hf4
      have hfs11_5 : fs11[5]? = some (.int fa) := by rw [efs11, List.getElem?_set_ne (by decide)]; exact hf5
      have hfs11_6 : fs11[6]? = some (.int fl) := by rw [efs11, List.getElem?_set_ne (by decide)]; exact hf6
      have hfs11_0 : fs11[0]? = some (.int 1) := by rw [efs11]; exact List.getElem?_set_self (by omega)
      have hlfs11 : fs11.length = 160 := by rw [efs11, List.length_set]; exact hl0
      refine lv_aload_n hx hb ld_X12_feed_32 rfl (lv_at hl 0 rfl) ?_
      refine va_get (D := D) (ci := 0) (v := .int 1) (C := "TableTongueModel") (T := al_TX12) (N := 160) hx hb hts hin hown hK hP 0 rfl rfl 0 (by decide) (hts (.fieldLink "TableTongueModel" 335 "TableTongueModel" "thrown" "I") (List.mem_cons_of_mem _ (lw_in 3069 (by decide +kernel) (by decide +kernel)))) (fun _ h9 => h9) hfs11_0 ld_X12_feed_33 ?_
      refine lv_if_le (tgt := 41) hx hb ld_X12_feed_36 (by decide) (fun z => absurd z (by decide)) (fun _ => ?_)
      refine lv_iconst (v := 0) hx hb ld_X12_feed_39 (by decide) ?_
      subst efs11
      exact W.iret (v := 0) hx hb hr (fun t ht hW => ⟨⟨0, (), rfl, rfl, by rw [ht]; exact hP, va_K.moved hW.alike hK, hD⟩, hS.F ht⟩) hS.2.2 ld_X12_feed_40
set_option maxHeartbeats 4000000 in
set_option maxRecDepth 100000 in
theorem um_X12_function (l : Launch) (D : va_G) (q0 sz : Nat) (fs : List Value) (hl0 : fs.length = 160) {tv zs fc fa fl : Int32} (hf0 : fs[0]? = some (.int tv)) (hf2 : fs[2]? = some (.int zs)) (hf3 : fs[3]? = some (.int 0)) (hf4 : fs[4]? = some (.int fc)) (hf5 : fs[5]? = some (.int fa)) (hf6 : fs[6]? = some (.int fl)) (a1 : Int32) (a2 : Int32)  : Met l ly_X12_function (lw_w ly_X12_function prog_14_method_108_code 3 (some .int)) ({ frames := 2, cells := 0, slots := 0, locals := 80 }) (lw_PM D q0 fs sz [.ref q0, .int a1, .int a2]) (va_Qi (S := Unit) (fun r _ => r = 0) (fun _ U => va_P D al_cl [(q0, .inr (0, (fs.set 0 (.int 1))))] U.heap ∧ va_K D al_cl [] U ∧ va_D (va_A [(q0, .inr (0, fs))] sz) [(q0, .inr (0, (fs.set 0 (.int 1))))]) (va_A [(q0, .inr (0, fs))] sz)) 0 0 (va_A [(q0, .inr (0, fs))] sz) := by
  refine Met.ofW (cc := prog_14_method_108_code) (maxL := 3) (ret := (some .int)) (by decide) rfl ?_
  intro p e s m args below meth c s₁ B hml hv
  obtain ⟨rfl, hsz, hP, hK, hD0⟩ := hv
  subst hsz
  have hx := B.exec
  have hb := B.bytes
  have hr := B.returns
  have hts := atoms_spec (ws := lw_w ly_X12_function prog_14_method_108_code 3 (some .int)) B.pre
  have hin : ∀ w ∈ u_ws "TableTongueModel" al_TX12 160, w ∈ lw_w ly_X12_function prog_14_method_108_code 3 (some .int) := fun w hw => List.mem_cons_of_mem _ (lw_u (ci := 0) rfl w hw)
  have hown : s.vm.findClass "TableTongueModel" = some m.cls := findClass_of_methodNamed B.named
  have hD := hD0.self (sz := s.heap.size)
  generalize hAe : va_A [(q0, .inr (0, fs))] s.heap.size = A at hD ⊢
  have hA : ∀ q : Nat, s.heap.size ≤ q → A q := fun q h => by rw [← hAe]; exact Or.inr h
  have hS : va_S A s.heap s.heap [] := va_S.rf
  have hl := lv_entry ([.ref q0, .int a1, .int a2]) (n := 3) (Nat.le_of_ble_eq_true rfl)
  rw [lg_entry_eq]
  generalize (lg_sl ([.ref q0, .int a1, .int a2]) ++ List.replicate (3 - (lg_sl ([.ref q0, .int a1, .int a2])).length) Slot.unset).toArray = ls at hl ⊢
  have hl : lv_has ls 3 [(0, .ref q0), (1, .int a1), (2, .int a2)] := hl
  refine lv_aload_n hx hb ld_X12_function_0 rfl (lv_at hl 0 rfl) ?_
  refine lv_aload_n hx hb ld_X12_function_1 rfl (lv_at hl 0 rfl) ?_
  refine va_get (D := D) (ci := 0) (v := .int 0) (C := "TableTongueModel") (T := al_TX12) (N := 160) hx hb hts hin hown hK hP 0 rfl rfl 3 (by decide) (hts (.fieldLink "TableTongueModel" 509 "TableTongueModel" "compiled" "Z") (List.mem_cons_of_mem _ (lw_in 3072 (by decide +kernel) (by decide +kernel)))) (fun _ h9 => h9) hf3 ld_X12_function_2 ?_
  refine lv_if_eq (tgt := 29) hx hb ld_X12_function_5 (by decide) (fun _ => ?_) (fun z => absurd z (by decide))
  refine lv_iconst (v := 1) hx hb ld_X12_function_29 (by decide) ?_
  refine lv_goto (tgt := 34) hx hb ld_X12_function_30 (by decide) ?_
  refine va_put (D := D) (ci := 0) (v := .int 1) (ty := .int) (C := "TableTongueModel") (T := al_TX12) (N := 160) hx hb hts hin (al_tyf 0) (al_Cls.2 0 _ _ _ rfl).2.1 (al_Cls.2 0 _ _ _ rfl).2.2 hown hK hP hD hS 0 rfl rfl 0 (by decide) (hts (.fieldLink "TableTongueModel" 335 "TableTongueModel" "thrown" "I") (List.mem_cons_of_mem _ (lw_in 3069 (by decide +kernel) (by decide +kernel)))) (fun _ h9 => h9) rfl (by decide +kernel) rfl rfl (by omega) ld_X12_function_34 (fun H locs hP hD hS => ?_)
  obtain ⟨fs12, efs12⟩ : ∃ z, z = fs.set 0 (.int 1) := ⟨_, rfl⟩
  have hP : va_P D al_cl [(q0, .inr (0, fs12))] H := by rw [efs12]; exact hP
  have hD : va_D A [(q0, .inr (0, fs12))] := by rw [efs12]; exact hD
  have hfs12_2 : fs12[2]? = some (.int zs) := by rw [efs12, List.getElem?_set_ne (by decide)]; exact hf2
  have hfs12_3 : fs12[3]? = some (.int 0) := by rw [efs12, List.getElem?_set_ne (by decide)]; exact hf3
  have hfs12_4 : fs12[4]? = some (.int fc) := by rw [efs12, List.getElem?_set_ne (by decide)]; exact hf4
  have hfs12_5 : fs12[5]? = some (.int fa) := by rw [efs12, List.getElem?_set_ne (by decide)]; exact hf5
  have hfs12_6 : fs12[6]? = some (.int fl) := by rw [efs12, List.getElem?_set_ne (by decide)]; exact hf6
  have hfs12_0 : fs12[0]? = some (.int 1) := by rw [efs12]; exact List.getElem?_set_self (by omega)
  have hlfs12 : fs12.length = 160 := by rw [efs12, List.length_set]; exact hl0
  refine lv_aload_n hx hb ld_X12_function_37 rfl (lv_at hl 0 rfl) ?_
  refine va_get (D := D) (ci := 0) (v := .int 1) (C := "TableTongueModel") (T := al_TX12) (N := 160) hx hb hts hin hown hK hP 0 rfl rfl 0 (by decide) (hts (.fieldLink "TableTongueModel" 335 "TableTongueModel" "thrown" "I") (List.mem_cons_of_mem _ (lw_in 3069 (by decide +kernel) (by decide +kernel)))) (fun _ h9 => h9) hfs12_0 ld_X12_function_38 ?_
  refine lv_if_le (tgt := 46) hx hb ld_X12_function_41 (by decide) (fun z => absurd z (by decide)) (fun _ => ?_)
  refine lv_iconst (v := 0) hx hb ld_X12_function_44 (by decide) ?_
  subst efs12
  exact W.iret (v := 0) hx hb hr (fun t ht hW => ⟨⟨0, (), rfl, rfl, by rw [ht]; exact hP, va_K.moved hW.alike hK, hD⟩, hS.F ht⟩) hS.2.2 ld_X12_function_45
set_option maxHeartbeats 4000000 in
set_option maxRecDepth 100000 in
theorem um_X12_load (l : Launch) (D : va_G) (q0 sz : Nat) (fs : List Value) (hl0 : fs.length = 160) {tv zs fc fa fl : Int32} (hf0 : fs[0]? = some (.int tv)) (hf2 : fs[2]? = some (.int zs)) (hf3 : fs[3]? = some (.int 0)) (hf4 : fs[4]? = some (.int fc)) (hf5 : fs[5]? = some (.int fa)) (hf6 : fs[6]? = some (.int fl))   : Met l ly_X12_load (lw_w ly_X12_load prog_14_method_238_code 1 none) ({ frames := 2, cells := 0, slots := 0, locals := 80 }) (lw_PM D q0 fs sz [.ref q0]) (va_Qv (S := Unit) (fun _ => True) (fun _ U => va_P D al_cl [(q0, .inr (0, (fs.set 0 (.int 1))))] U.heap ∧ va_K D al_cl [] U ∧ va_D (va_A [(q0, .inr (0, fs))] sz) [(q0, .inr (0, (fs.set 0 (.int 1))))]) (va_A [(q0, .inr (0, fs))] sz)) 0 0 (va_A [(q0, .inr (0, fs))] sz) := by
  refine Met.ofW (cc := prog_14_method_238_code) (maxL := 1) (ret := none) (by decide) rfl ?_
  intro p e s m args below meth c s₁ B hml hv
  obtain ⟨rfl, hsz, hP, hK, hD0⟩ := hv
  subst hsz
  have hx := B.exec
  have hb := B.bytes
  have hr := B.returns
  have hts := atoms_spec (ws := lw_w ly_X12_load prog_14_method_238_code 1 none) B.pre
  have hin : ∀ w ∈ u_ws "TableTongueModel" al_TX12 160, w ∈ lw_w ly_X12_load prog_14_method_238_code 1 none := fun w hw => List.mem_cons_of_mem _ (lw_u (ci := 0) rfl w hw)
  have hown : s.vm.findClass "TableTongueModel" = some m.cls := findClass_of_methodNamed B.named
  have hD := hD0.self (sz := s.heap.size)
  generalize hAe : va_A [(q0, .inr (0, fs))] s.heap.size = A at hD ⊢
  have hA : ∀ q : Nat, s.heap.size ≤ q → A q := fun q h => by rw [← hAe]; exact Or.inr h
  have hS : va_S A s.heap s.heap [] := va_S.rf
  have hl := lv_entry ([.ref q0]) (n := 1) (Nat.le_of_ble_eq_true rfl)
  rw [lg_entry_eq]
  generalize (lg_sl ([.ref q0]) ++ List.replicate (1 - (lg_sl ([.ref q0])).length) Slot.unset).toArray = ls at hl ⊢
  have hl : lv_has ls 1 [(0, .ref q0)] := hl
  refine lv_aload_n hx hb ld_X12_load_0 rfl (lv_at hl 0 rfl) ?_
  refine lv_aload_n hx hb ld_X12_load_1 rfl (lv_at hl 0 rfl) ?_
  refine va_get (D := D) (ci := 0) (v := .int 0) (C := "TableTongueModel") (T := al_TX12) (N := 160) hx hb hts hin hown hK hP 0 rfl rfl 3 (by decide) (hts (.fieldLink "TableTongueModel" 509 "TableTongueModel" "compiled" "Z") (List.mem_cons_of_mem _ (lw_in 3072 (by decide +kernel) (by decide +kernel)))) (fun _ h9 => h9) hf3 ld_X12_load_2 ?_
  refine lv_if_eq (tgt := 12) hx hb ld_X12_load_5 (by decide) (fun _ => ?_) (fun z => absurd z (by decide))
  refine lv_iconst (v := 1) hx hb ld_X12_load_12 (by decide) ?_
  refine va_put (D := D) (ci := 0) (v := .int 1) (ty := .int) (C := "TableTongueModel") (T := al_TX12) (N := 160) hx hb hts hin (al_tyf 0) (al_Cls.2 0 _ _ _ rfl).2.1 (al_Cls.2 0 _ _ _ rfl).2.2 hown hK hP hD hS 0 rfl rfl 0 (by decide) (hts (.fieldLink "TableTongueModel" 335 "TableTongueModel" "thrown" "I") (List.mem_cons_of_mem _ (lw_in 3069 (by decide +kernel) (by decide +kernel)))) (fun _ h9 => h9) rfl (by decide +kernel) rfl rfl (by omega) ld_X12_load_13 (fun H locs hP hD hS => ?_)
  obtain ⟨fs13, efs13⟩ : ∃ z, z = fs.set 0 (.int 1) := ⟨_, rfl⟩
  have hP : va_P D al_cl [(q0, .inr (0, fs13))] H := by rw [efs13]; exact hP
  have hD : va_D A [(q0, .inr (0, fs13))] := by rw [efs13]; exact hD
  have hfs13_2 : fs13[2]? = some (.int zs) := by rw [efs13, List.getElem?_set_ne (by decide)]; exact hf2
  have hfs13_3 : fs13[3]? = some (.int 0) := by rw [efs13, List.getElem?_set_ne (by decide)]; exact hf3
  have hfs13_4 : fs13[4]? = some (.int fc) := by rw [efs13, List.getElem?_set_ne (by decide)]; exact hf4
  have hfs13_5 : fs13[5]? = some (.int fa) := by rw [efs13, List.getElem?_set_ne (by decide)]; exact hf5
  have hfs13_6 : fs13[6]? = some (.int fl) := by rw [efs13, List.getElem?_set_ne (by decide)]; exact hf6
  have hfs13_0 : fs13[0]? = some (.int 1) := by rw [efs13]; exact List.getElem?_set_self (by omega)
  have hlfs13 : fs13.length = 160 := by rw [efs13, List.length_set]; exact hl0
  refine lv_aload_n hx hb ld_X12_load_16 rfl (lv_at hl 0 rfl) ?_
  refine va_get (D := D) (ci := 0) (v := .int 1) (C := "TableTongueModel") (T := al_TX12) (N := 160) hx hb hts hin hown hK hP 0 rfl rfl 0 (by decide) (hts (.fieldLink "TableTongueModel" 335 "TableTongueModel" "thrown" "I") (List.mem_cons_of_mem _ (lw_in 3069 (by decide +kernel) (by decide +kernel)))) (fun _ h9 => h9) hfs13_0 ld_X12_load_17 ?_
  refine lv_if_ne (tgt := 27) hx hb ld_X12_load_20 (by decide) (fun _ => ?_) (fun z => absurd z (by decide))
  subst efs13
  exact W.vret hx hb hr (fun t ht hW => ⟨⟨(), rfl, trivial, by rw [ht]; exact hP, va_K.moved hW.alike hK, hD⟩, hS.F ht⟩) hS.2.2 ld_X12_load_27
set_option maxHeartbeats 4000000 in
set_option maxRecDepth 100000 in
theorem um_X12_run (l : Launch) (D : va_G) (q0 sz : Nat) (fs : List Value) (hl0 : fs.length = 160) {tv zs fc fa fl : Int32} (hf0 : fs[0]? = some (.int tv)) (hf2 : fs[2]? = some (.int zs)) (hf3 : fs[3]? = some (.int 0)) (hf4 : fs[4]? = some (.int fc)) (hf5 : fs[5]? = some (.int fa)) (hf6 : fs[6]? = some (.int fl)) (a1 : Int32)  : Met l ly_X12_run (lw_w ly_X12_run prog_14_method_240_code 2 (some .int)) ({ frames := 2, cells := 0, slots := 0, locals := 80 }) (lw_PM D q0 fs sz [.ref q0, .int a1]) (va_Qi (S := Unit) (fun r _ => r = 0) (fun _ U => va_P D al_cl [(q0, .inr (0, (fs.set 0 (.int 1))))] U.heap ∧ va_K D al_cl [] U ∧ va_D (va_A [(q0, .inr (0, fs))] sz) [(q0, .inr (0, (fs.set 0 (.int 1))))]) (va_A [(q0, .inr (0, fs))] sz)) 0 0 (va_A [(q0, .inr (0, fs))] sz) := by
  refine Met.ofW (cc := prog_14_method_240_code) (maxL := 2) (ret := (some .int)) (by decide) rfl ?_
  intro p e s m args below meth c s₁ B hml hv
  obtain ⟨rfl, hsz, hP, hK, hD0⟩ := hv
  subst hsz
  have hx := B.exec
  have hb := B.bytes
  have hr := B.returns
  have hts := atoms_spec (ws := lw_w ly_X12_run prog_14_method_240_code 2 (some .int)) B.pre
  have hin : ∀ w ∈ u_ws "TableTongueModel" al_TX12 160, w ∈ lw_w ly_X12_run prog_14_method_240_code 2 (some .int) := fun w hw => List.mem_cons_of_mem _ (lw_u (ci := 0) rfl w hw)
  have hown : s.vm.findClass "TableTongueModel" = some m.cls := findClass_of_methodNamed B.named
  have hD := hD0.self (sz := s.heap.size)
  generalize hAe : va_A [(q0, .inr (0, fs))] s.heap.size = A at hD ⊢
  have hA : ∀ q : Nat, s.heap.size ≤ q → A q := fun q h => by rw [← hAe]; exact Or.inr h
  have hS : va_S A s.heap s.heap [] := va_S.rf
  have hl := lv_entry ([.ref q0, .int a1]) (n := 2) (Nat.le_of_ble_eq_true rfl)
  rw [lg_entry_eq]
  generalize (lg_sl ([.ref q0, .int a1]) ++ List.replicate (2 - (lg_sl ([.ref q0, .int a1])).length) Slot.unset).toArray = ls at hl ⊢
  have hl : lv_has ls 2 [(0, .ref q0), (1, .int a1)] := hl
  refine lv_aload_n hx hb ld_X12_run_0 rfl (lv_at hl 0 rfl) ?_
  refine lv_aload_n hx hb ld_X12_run_1 rfl (lv_at hl 0 rfl) ?_
  refine va_get (D := D) (ci := 0) (v := .int 0) (C := "TableTongueModel") (T := al_TX12) (N := 160) hx hb hts hin hown hK hP 0 rfl rfl 3 (by decide) (hts (.fieldLink "TableTongueModel" 509 "TableTongueModel" "compiled" "Z") (List.mem_cons_of_mem _ (lw_in 3072 (by decide +kernel) (by decide +kernel)))) (fun _ h9 => h9) hf3 ld_X12_run_2 ?_
  refine lv_if_ne (tgt := 12) hx hb ld_X12_run_5 (by decide) (fun z => absurd z (by decide)) (fun _ => ?_)
  refine lv_iconst (v := 1) hx hb ld_X12_run_8 (by decide) ?_
  refine lv_goto (tgt := 29) hx hb ld_X12_run_9 (by decide) ?_
  refine va_put (D := D) (ci := 0) (v := .int 1) (ty := .int) (C := "TableTongueModel") (T := al_TX12) (N := 160) hx hb hts hin (al_tyf 0) (al_Cls.2 0 _ _ _ rfl).2.1 (al_Cls.2 0 _ _ _ rfl).2.2 hown hK hP hD hS 0 rfl rfl 0 (by decide) (hts (.fieldLink "TableTongueModel" 335 "TableTongueModel" "thrown" "I") (List.mem_cons_of_mem _ (lw_in 3069 (by decide +kernel) (by decide +kernel)))) (fun _ h9 => h9) rfl (by decide +kernel) rfl rfl (by omega) ld_X12_run_29 (fun H locs hP hD hS => ?_)
  obtain ⟨fs14, efs14⟩ : ∃ z, z = fs.set 0 (.int 1) := ⟨_, rfl⟩
  have hP : va_P D al_cl [(q0, .inr (0, fs14))] H := by rw [efs14]; exact hP
  have hD : va_D A [(q0, .inr (0, fs14))] := by rw [efs14]; exact hD
  have hfs14_2 : fs14[2]? = some (.int zs) := by rw [efs14, List.getElem?_set_ne (by decide)]; exact hf2
  have hfs14_3 : fs14[3]? = some (.int 0) := by rw [efs14, List.getElem?_set_ne (by decide)]; exact hf3
  have hfs14_4 : fs14[4]? = some (.int fc) := by rw [efs14, List.getElem?_set_ne (by decide)]; exact hf4
  have hfs14_5 : fs14[5]? = some (.int fa) := by rw [efs14, List.getElem?_set_ne (by decide)]; exact hf5
  have hfs14_6 : fs14[6]? = some (.int fl) := by rw [efs14, List.getElem?_set_ne (by decide)]; exact hf6
  have hfs14_0 : fs14[0]? = some (.int 1) := by rw [efs14]; exact List.getElem?_set_self (by omega)
  have hlfs14 : fs14.length = 160 := by rw [efs14, List.length_set]; exact hl0
  refine lv_aload_n hx hb ld_X12_run_32 rfl (lv_at hl 0 rfl) ?_
  refine va_get (D := D) (ci := 0) (v := .int 1) (C := "TableTongueModel") (T := al_TX12) (N := 160) hx hb hts hin hown hK hP 0 rfl rfl 0 (by decide) (hts (.fieldLink "TableTongueModel" 335 "TableTongueModel" "thrown" "I") (List.mem_cons_of_mem _ (lw_in 3069 (by decide +kernel) (by decide +kernel)))) (fun _ h9 => h9) hfs14_0 ld_X12_run_33 ?_
  refine lv_if_le (tgt := 41) hx hb ld_X12_run_36 (by decide) (fun z => absurd z (by decide)) (fun _ => ?_)
  refine lv_iconst (v := 0) hx hb ld_X12_run_39 (by decide) ?_
  subst efs14
  exact W.iret (v := 0) hx hb hr (fun t ht hW => ⟨⟨0, (), rfl, rfl, by rw [ht]; exact hP, va_K.moved hW.alike hK, hD⟩, hS.F ht⟩) hS.2.2 ld_X12_run_40
set_option maxHeartbeats 4000000 in
set_option maxRecDepth 100000 in
theorem um_X12_steps (l : Launch) (D : va_G) (q0 sz : Nat) (fs : List Value) (hl0 : fs.length = 160) {tv zs fc fa fl : Int32} (hf0 : fs[0]? = some (.int tv)) (hf2 : fs[2]? = some (.int zs)) (hf3 : fs[3]? = some (.int 0)) (hf4 : fs[4]? = some (.int fc)) (hf5 : fs[5]? = some (.int fa)) (hf6 : fs[6]? = some (.int fl))   : Met l ly_X12_steps (lw_w ly_X12_steps prog_14_method_241_code 1 (some .long)) ({ frames := 2, cells := 0, slots := 0, locals := 80 }) (lw_PM D q0 fs sz [.ref q0]) (va_Ql (S := Unit) (fun r _ => r = 0) (fun _ U => va_P D al_cl [(q0, .inr (0, (fs.set 0 (.int 0))))] U.heap ∧ va_K D al_cl [] U ∧ va_D (va_A [(q0, .inr (0, fs))] sz) [(q0, .inr (0, (fs.set 0 (.int 0))))]) (va_A [(q0, .inr (0, fs))] sz)) 0 0 (va_A [(q0, .inr (0, fs))] sz) := by
  refine Met.ofW (cc := prog_14_method_241_code) (maxL := 1) (ret := (some .long)) (by decide) rfl ?_
  intro p e s m args below meth c s₁ B hml hv
  obtain ⟨rfl, hsz, hP, hK, hD0⟩ := hv
  subst hsz
  have hx := B.exec
  have hb := B.bytes
  have hr := B.returns
  have hts := atoms_spec (ws := lw_w ly_X12_steps prog_14_method_241_code 1 (some .long)) B.pre
  have hin : ∀ w ∈ u_ws "TableTongueModel" al_TX12 160, w ∈ lw_w ly_X12_steps prog_14_method_241_code 1 (some .long) := fun w hw => List.mem_cons_of_mem _ (lw_u (ci := 0) rfl w hw)
  have hown : s.vm.findClass "TableTongueModel" = some m.cls := findClass_of_methodNamed B.named
  have hD := hD0.self (sz := s.heap.size)
  generalize hAe : va_A [(q0, .inr (0, fs))] s.heap.size = A at hD ⊢
  have hA : ∀ q : Nat, s.heap.size ≤ q → A q := fun q h => by rw [← hAe]; exact Or.inr h
  have hS : va_S A s.heap s.heap [] := va_S.rf
  have hl := lv_entry ([.ref q0]) (n := 1) (Nat.le_of_ble_eq_true rfl)
  rw [lg_entry_eq]
  generalize (lg_sl ([.ref q0]) ++ List.replicate (1 - (lg_sl ([.ref q0])).length) Slot.unset).toArray = ls at hl ⊢
  have hl : lv_has ls 1 [(0, .ref q0)] := hl
  refine lv_aload_n hx hb ld_X12_steps_0 rfl (lv_at hl 0 rfl) ?_
  refine lv_iconst (v := 0) hx hb ld_X12_steps_1 (by decide) ?_
  refine va_put (D := D) (ci := 0) (v := .int 0) (ty := .int) (C := "TableTongueModel") (T := al_TX12) (N := 160) hx hb hts hin (al_tyf 0) (al_Cls.2 0 _ _ _ rfl).2.1 (al_Cls.2 0 _ _ _ rfl).2.2 hown hK hP hD hS 0 rfl rfl 0 (by decide) (hts (.fieldLink "TableTongueModel" 335 "TableTongueModel" "thrown" "I") (List.mem_cons_of_mem _ (lw_in 3069 (by decide +kernel) (by decide +kernel)))) (fun _ h9 => h9) rfl (by decide +kernel) rfl rfl (by omega) ld_X12_steps_2 (fun H locs hP hD hS => ?_)
  obtain ⟨fs15, efs15⟩ : ∃ z, z = fs.set 0 (.int 0) := ⟨_, rfl⟩
  have hP : va_P D al_cl [(q0, .inr (0, fs15))] H := by rw [efs15]; exact hP
  have hD : va_D A [(q0, .inr (0, fs15))] := by rw [efs15]; exact hD
  have hfs15_2 : fs15[2]? = some (.int zs) := by rw [efs15, List.getElem?_set_ne (by decide)]; exact hf2
  have hfs15_3 : fs15[3]? = some (.int 0) := by rw [efs15, List.getElem?_set_ne (by decide)]; exact hf3
  have hfs15_4 : fs15[4]? = some (.int fc) := by rw [efs15, List.getElem?_set_ne (by decide)]; exact hf4
  have hfs15_5 : fs15[5]? = some (.int fa) := by rw [efs15, List.getElem?_set_ne (by decide)]; exact hf5
  have hfs15_6 : fs15[6]? = some (.int fl) := by rw [efs15, List.getElem?_set_ne (by decide)]; exact hf6
  have hfs15_0 : fs15[0]? = some (.int 0) := by rw [efs15]; exact List.getElem?_set_self (by omega)
  have hlfs15 : fs15.length = 160 := by rw [efs15, List.length_set]; exact hl0
  refine lv_aload_n hx hb ld_X12_steps_5 rfl (lv_at hl 0 rfl) ?_
  refine va_get (D := D) (ci := 0) (v := .int 0) (C := "TableTongueModel") (T := al_TX12) (N := 160) hx hb hts hin hown hK hP 0 rfl rfl 3 (by decide) (hts (.fieldLink "TableTongueModel" 509 "TableTongueModel" "compiled" "Z") (List.mem_cons_of_mem _ (lw_in 3072 (by decide +kernel) (by decide +kernel)))) (fun _ h9 => h9) hfs15_3 ld_X12_steps_6 ?_
  refine lv_if_eq (tgt := 19) hx hb ld_X12_steps_9 (by decide) (fun _ => ?_) (fun z => absurd z (by decide))
  refine lv_lconst (v := 0) hx hb ld_X12_steps_19 (by decide) ?_
  subst efs15
  exact W.lret (v := 0) hx hb hr (fun t ht hW => ⟨⟨0, (), rfl, rfl, by rw [ht]; exact hP, va_K.moved hW.alike hK, hD⟩, hS.F ht⟩) hS.2.2 ld_X12_steps_20
set_option maxHeartbeats 4000000 in
set_option maxRecDepth 100000 in
theorem um_X12_results (l : Launch) (D : va_G) (q0 sz : Nat) (fs : List Value) (hl0 : fs.length = 160) {tv zs fc fa fl : Int32} (hf0 : fs[0]? = some (.int tv)) (hf2 : fs[2]? = some (.int zs)) (hf3 : fs[3]? = some (.int 0)) (hf4 : fs[4]? = some (.int fc)) (hf5 : fs[5]? = some (.int fa)) (hf6 : fs[6]? = some (.int fl))   : Met l ly_X12_results (lw_w ly_X12_results prog_14_method_243_code 1 (some .int)) ({ frames := 2, cells := 0, slots := 0, locals := 80 }) (lw_PM D q0 fs sz [.ref q0]) (va_Qi (S := Unit) (fun r _ => r = 0) (fun _ U => va_P D al_cl [(q0, .inr (0, (fs.set 0 (.int 0))))] U.heap ∧ va_K D al_cl [] U ∧ va_D (va_A [(q0, .inr (0, fs))] sz) [(q0, .inr (0, (fs.set 0 (.int 0))))]) (va_A [(q0, .inr (0, fs))] sz)) 0 0 (va_A [(q0, .inr (0, fs))] sz) := by
  refine Met.ofW (cc := prog_14_method_243_code) (maxL := 1) (ret := (some .int)) (by decide) rfl ?_
  intro p e s m args below meth c s₁ B hml hv
  obtain ⟨rfl, hsz, hP, hK, hD0⟩ := hv
  subst hsz
  have hx := B.exec
  have hb := B.bytes
  have hr := B.returns
  have hts := atoms_spec (ws := lw_w ly_X12_results prog_14_method_243_code 1 (some .int)) B.pre
  have hin : ∀ w ∈ u_ws "TableTongueModel" al_TX12 160, w ∈ lw_w ly_X12_results prog_14_method_243_code 1 (some .int) := fun w hw => List.mem_cons_of_mem _ (lw_u (ci := 0) rfl w hw)
  have hown : s.vm.findClass "TableTongueModel" = some m.cls := findClass_of_methodNamed B.named
  have hD := hD0.self (sz := s.heap.size)
  generalize hAe : va_A [(q0, .inr (0, fs))] s.heap.size = A at hD ⊢
  have hA : ∀ q : Nat, s.heap.size ≤ q → A q := fun q h => by rw [← hAe]; exact Or.inr h
  have hS : va_S A s.heap s.heap [] := va_S.rf
  have hl := lv_entry ([.ref q0]) (n := 1) (Nat.le_of_ble_eq_true rfl)
  rw [lg_entry_eq]
  generalize (lg_sl ([.ref q0]) ++ List.replicate (1 - (lg_sl ([.ref q0])).length) Slot.unset).toArray = ls at hl ⊢
  have hl : lv_has ls 1 [(0, .ref q0)] := hl
  refine lv_aload_n hx hb ld_X12_results_0 rfl (lv_at hl 0 rfl) ?_
  refine lv_iconst (v := 0) hx hb ld_X12_results_1 (by decide) ?_
  refine va_put (D := D) (ci := 0) (v := .int 0) (ty := .int) (C := "TableTongueModel") (T := al_TX12) (N := 160) hx hb hts hin (al_tyf 0) (al_Cls.2 0 _ _ _ rfl).2.1 (al_Cls.2 0 _ _ _ rfl).2.2 hown hK hP hD hS 0 rfl rfl 0 (by decide) (hts (.fieldLink "TableTongueModel" 335 "TableTongueModel" "thrown" "I") (List.mem_cons_of_mem _ (lw_in 3069 (by decide +kernel) (by decide +kernel)))) (fun _ h9 => h9) rfl (by decide +kernel) rfl rfl (by omega) ld_X12_results_2 (fun H locs hP hD hS => ?_)
  obtain ⟨fs16, efs16⟩ : ∃ z, z = fs.set 0 (.int 0) := ⟨_, rfl⟩
  have hP : va_P D al_cl [(q0, .inr (0, fs16))] H := by rw [efs16]; exact hP
  have hD : va_D A [(q0, .inr (0, fs16))] := by rw [efs16]; exact hD
  have hfs16_2 : fs16[2]? = some (.int zs) := by rw [efs16, List.getElem?_set_ne (by decide)]; exact hf2
  have hfs16_3 : fs16[3]? = some (.int 0) := by rw [efs16, List.getElem?_set_ne (by decide)]; exact hf3
  have hfs16_4 : fs16[4]? = some (.int fc) := by rw [efs16, List.getElem?_set_ne (by decide)]; exact hf4
  have hfs16_5 : fs16[5]? = some (.int fa) := by rw [efs16, List.getElem?_set_ne (by decide)]; exact hf5
  have hfs16_6 : fs16[6]? = some (.int fl) := by rw [efs16, List.getElem?_set_ne (by decide)]; exact hf6
  have hfs16_0 : fs16[0]? = some (.int 0) := by rw [efs16]; exact List.getElem?_set_self (by omega)
  have hlfs16 : fs16.length = 160 := by rw [efs16, List.length_set]; exact hl0
  refine lv_aload_n hx hb ld_X12_results_5 rfl (lv_at hl 0 rfl) ?_
  refine va_calli (va_runV (As := []) (rest := []) (C := "TableTongueModel") (Ts := lw_w ly_X12_results prog_14_method_243_code 1 (some .int)) ⟨hx, hb, hml, hown, hts⟩ (m_X12_results0 l D q0 H.size fs16 hfs16_3) ⟨callB_of 0 hts (lw_GoodIn (List.mem_cons_of_mem _ (lw_in 4546 (by decide +kernel) (by decide +kernel))) (by decide +kernel)) rfl rfl rfl (hts _ (List.mem_cons_of_mem _ (lw_in 423 (by decide +kernel) (by decide +kernel)))) (hts _ (List.mem_cons_of_mem _ (lw_in 4543 (by decide +kernel) (by decide +kernel)))) ⟨by decide, by decide, by decide +kernel⟩ ⟨Nat.le_of_ble_eq_true rfl, Nat.le_of_ble_eq_true rfl⟩, hts _ (List.mem_cons_of_mem _ (lw_in 4545 (by decide +kernel) (by decide +kernel))), hts _ (List.mem_cons_of_mem _ (lw_in 390 (by decide +kernel) (by decide +kernel)))⟩ ⟨lw_PM.blind, va_recv hK hP (ci := 0) (q0 := 0) rfl rfl, fun U hU hW => ⟨rfl, by rw [hU], by rw [hU]; exact hP, va_K.moved hW.alike hK, hD.weaken (fun _ _ _ _ => trivial)⟩⟩ rfl rfl hl.1 rfl (lv_room (Nat.le_of_ble_eq_true rfl)) ld_X12_results_6 ⟨Nat.le_of_ble_eq_true rfl, Nat.le_of_ble_eq_true rfl⟩) hS (fun q h1 h => absurd h (Nat.not_le.mpr h1)) (fun q h => hA q (Nat.le_trans hS.1 h)) (fun r_6 u t H1 locs1 ht hvm hw _ hz1 hk1 hS => ?_)
  obtain rfl : r_6 = 0 := hw
  have hP : va_P D al_cl [(q0, .inr (0, fs16))] H1 := hP.kept (fun k q hk => hk1 q.1 (hP k q hk).lt (Nat.not_le.mpr (hP k q hk).lt))
  subst efs16
  exact W.iret (v := 0) hx hb hr (fun t ht hW => ⟨⟨0, (), rfl, rfl, by rw [ht]; exact hP, va_K.moved hW.alike hK, hD⟩, hS.F ht⟩) hS.2.2 ld_X12_results_9
set_option maxHeartbeats 4000000 in
set_option maxRecDepth 100000 in
theorem um_X12_result (l : Launch) (D : va_G) (q0 sz : Nat) (fs : List Value) (hl0 : fs.length = 160) {tv zs fc fa fl : Int32} (hf0 : fs[0]? = some (.int tv)) (hf2 : fs[2]? = some (.int zs)) (hf3 : fs[3]? = some (.int 0)) (hf4 : fs[4]? = some (.int fc)) (hf5 : fs[5]? = some (.int fa)) (hf6 : fs[6]? = some (.int fl)) (a1 : Int32) (a2 : Int32)  : Met l ly_X12_result (lw_w ly_X12_result prog_14_method_246_code 3 (some .long)) ({ frames := 2, cells := 0, slots := 0, locals := 80 }) (lw_PM D q0 fs sz [.ref q0, .int a1, .int a2]) (va_Ql (S := Unit) (fun r _ => r = 0) (fun _ U => va_P D al_cl [(q0, .inr (0, (fs.set 0 (.int 1))))] U.heap ∧ va_K D al_cl [] U ∧ va_D (va_A [(q0, .inr (0, fs))] sz) [(q0, .inr (0, (fs.set 0 (.int 1))))]) (va_A [(q0, .inr (0, fs))] sz)) 0 0 (va_A [(q0, .inr (0, fs))] sz) := by
  refine Met.ofW (cc := prog_14_method_246_code) (maxL := 3) (ret := (some .long)) (by decide) rfl ?_
  intro p e s m args below meth c s₁ B hml hv
  obtain ⟨rfl, hsz, hP, hK, hD0⟩ := hv
  subst hsz
  have hx := B.exec
  have hb := B.bytes
  have hr := B.returns
  have hts := atoms_spec (ws := lw_w ly_X12_result prog_14_method_246_code 3 (some .long)) B.pre
  have hin : ∀ w ∈ u_ws "TableTongueModel" al_TX12 160, w ∈ lw_w ly_X12_result prog_14_method_246_code 3 (some .long) := fun w hw => List.mem_cons_of_mem _ (lw_u (ci := 0) rfl w hw)
  have hown : s.vm.findClass "TableTongueModel" = some m.cls := findClass_of_methodNamed B.named
  have hD := hD0.self (sz := s.heap.size)
  generalize hAe : va_A [(q0, .inr (0, fs))] s.heap.size = A at hD ⊢
  have hA : ∀ q : Nat, s.heap.size ≤ q → A q := fun q h => by rw [← hAe]; exact Or.inr h
  have hS : va_S A s.heap s.heap [] := va_S.rf
  have hl := lv_entry ([.ref q0, .int a1, .int a2]) (n := 3) (Nat.le_of_ble_eq_true rfl)
  rw [lg_entry_eq]
  generalize (lg_sl ([.ref q0, .int a1, .int a2]) ++ List.replicate (3 - (lg_sl ([.ref q0, .int a1, .int a2])).length) Slot.unset).toArray = ls at hl ⊢
  have hl : lv_has ls 3 [(0, .ref q0), (1, .int a1), (2, .int a2)] := hl
  refine lv_aload_n hx hb ld_X12_result_0 rfl (lv_at hl 0 rfl) ?_
  refine lv_iload_n hx hb ld_X12_result_1 rfl (lv_at hl 1 rfl) ?_
  refine lv_if_lt (tgt := 22) hx hb ld_X12_result_2 (by decide) (fun c_1 => ?_) (fun c_1 => ?_)
  · skip
    refine lv_iconst (v := 1) hx hb ld_X12_result_22 (by decide) ?_
    refine lv_goto (tgt := 27) hx hb ld_X12_result_23 (by decide) ?_
    refine va_put (D := D) (ci := 0) (v := .int 1) (ty := .int) (C := "TableTongueModel") (T := al_TX12) (N := 160) hx hb hts hin (al_tyf 0) (al_Cls.2 0 _ _ _ rfl).2.1 (al_Cls.2 0 _ _ _ rfl).2.2 hown hK hP hD hS 0 rfl rfl 0 (by decide) (hts (.fieldLink "TableTongueModel" 335 "TableTongueModel" "thrown" "I") (List.mem_cons_of_mem _ (lw_in 3069 (by decide +kernel) (by decide +kernel)))) (fun _ h9 => h9) rfl (by decide +kernel) rfl rfl (by omega) ld_X12_result_27 (fun H locs hP hD hS => ?_)
    obtain ⟨fs17, efs17⟩ : ∃ z, z = fs.set 0 (.int 1) := ⟨_, rfl⟩
    have hP : va_P D al_cl [(q0, .inr (0, fs17))] H := by rw [efs17]; exact hP
    have hD : va_D A [(q0, .inr (0, fs17))] := by rw [efs17]; exact hD
    have hfs17_2 : fs17[2]? = some (.int zs) := by rw [efs17, List.getElem?_set_ne (by decide)]; exact hf2
    have hfs17_3 : fs17[3]? = some (.int 0) := by rw [efs17, List.getElem?_set_ne (by decide)]; exact hf3
    have hfs17_4 : fs17[4]? = some (.int fc) := by rw [efs17, List.getElem?_set_ne (by decide)]; exact hf4
    have hfs17_5 : fs17[5]? = some (.int fa) := by rw [efs17, List.getElem?_set_ne (by decide)]; exact hf5
    have hfs17_6 : fs17[6]? = some (.int fl) := by rw [efs17, List.getElem?_set_ne (by decide)]; exact hf6
    have hfs17_0 : fs17[0]? = some (.int 1) := by rw [efs17]; exact List.getElem?_set_self (by omega)
    have hlfs17 : fs17.length = 160 := by rw [efs17, List.length_set]; exact hl0
    refine lv_aload_n hx hb ld_X12_result_30 rfl (lv_at hl 0 rfl) ?_
    refine va_get (D := D) (ci := 0) (v := .int 1) (C := "TableTongueModel") (T := al_TX12) (N := 160) hx hb hts hin hown hK hP 0 rfl rfl 0 (by decide) (hts (.fieldLink "TableTongueModel" 335 "TableTongueModel" "thrown" "I") (List.mem_cons_of_mem _ (lw_in 3069 (by decide +kernel) (by decide +kernel)))) (fun _ h9 => h9) hfs17_0 ld_X12_result_31 ?_
    refine lv_if_le (tgt := 39) hx hb ld_X12_result_34 (by decide) (fun z => absurd z (by decide)) (fun _ => ?_)
    refine lv_lconst (v := 0) hx hb ld_X12_result_37 (by decide) ?_
    subst efs17
    exact W.lret (v := 0) hx hb hr (fun t ht hW => ⟨⟨0, (), rfl, rfl, by rw [ht]; exact hP, va_K.moved hW.alike hK, hD⟩, hS.F ht⟩) hS.2.2 ld_X12_result_38
  · skip
    refine lv_iload_n hx hb ld_X12_result_5 rfl (lv_at hl 1 rfl) ?_
    refine lv_aload_n hx hb ld_X12_result_6 rfl (lv_at hl 0 rfl) ?_
    refine va_calli (va_runV (As := []) (rest := [.int a1, .ref q0]) (C := "TableTongueModel") (Ts := lw_w ly_X12_result prog_14_method_246_code 3 (some .long)) ⟨hx, hb, hml, hown, hts⟩ (m_X12_results0 l D q0 s.heap.size fs hf3) ⟨callB_of 0 hts (lw_GoodIn (List.mem_cons_of_mem _ (lw_in 4546 (by decide +kernel) (by decide +kernel))) (by decide +kernel)) rfl rfl rfl (hts _ (List.mem_cons_of_mem _ (lw_in 423 (by decide +kernel) (by decide +kernel)))) (hts _ (List.mem_cons_of_mem _ (lw_in 4543 (by decide +kernel) (by decide +kernel)))) ⟨by decide, by decide, by decide +kernel⟩ ⟨Nat.le_of_ble_eq_true rfl, Nat.le_of_ble_eq_true rfl⟩, hts _ (List.mem_cons_of_mem _ (lw_in 4545 (by decide +kernel) (by decide +kernel))), hts _ (List.mem_cons_of_mem _ (lw_in 390 (by decide +kernel) (by decide +kernel)))⟩ ⟨lw_PM.blind, va_recv hK hP (ci := 0) (q0 := 0) rfl rfl, fun U hU hW => ⟨rfl, by rw [hU], by rw [hU]; exact hP, va_K.moved hW.alike hK, hD.weaken (fun _ _ _ _ => trivial)⟩⟩ rfl rfl hl.1 rfl (lv_room (Nat.le_of_ble_eq_true rfl)) ld_X12_result_7 ⟨Nat.le_of_ble_eq_true rfl, Nat.le_of_ble_eq_true rfl⟩) hS (fun q h1 h => absurd h (Nat.not_le.mpr h1)) (fun q h => hA q (Nat.le_trans hS.1 h)) (fun r_7 u t H1 locs1 ht hvm hw _ hz1 hk1 hS => ?_)
    obtain rfl : r_7 = 0 := hw
    have hP : va_P D al_cl [(q0, .inr (0, fs))] H1 := hP.kept (fun k q hk => hk1 q.1 (hP k q hk).lt (Nat.not_le.mpr (hP k q hk).lt))
    refine lv_icmp_ge (tgt := 22) hx hb ld_X12_result_10 (by decide) (fun _ => ?_) (fun z => absurd (by first | exact Int32.not_lt.mp c_1 | omega) z)
    refine lv_iconst (v := 1) hx hb ld_X12_result_22 (by decide) ?_
    refine lv_goto (tgt := 27) hx hb ld_X12_result_23 (by decide) ?_
    refine va_put (D := D) (ci := 0) (v := .int 1) (ty := .int) (C := "TableTongueModel") (T := al_TX12) (N := 160) hx hb hts hin (al_tyf 0) (al_Cls.2 0 _ _ _ rfl).2.1 (al_Cls.2 0 _ _ _ rfl).2.2 hown hK hP hD hS 0 rfl rfl 0 (by decide) (hts (.fieldLink "TableTongueModel" 335 "TableTongueModel" "thrown" "I") (List.mem_cons_of_mem _ (lw_in 3069 (by decide +kernel) (by decide +kernel)))) (fun _ h9 => h9) rfl (by decide +kernel) rfl rfl (by omega) ld_X12_result_27 (fun H locs hP hD hS => ?_)
    obtain ⟨fs18, efs18⟩ : ∃ z, z = fs.set 0 (.int 1) := ⟨_, rfl⟩
    have hP : va_P D al_cl [(q0, .inr (0, fs18))] H := by rw [efs18]; exact hP
    have hD : va_D A [(q0, .inr (0, fs18))] := by rw [efs18]; exact hD
    have hfs18_2 : fs18[2]? = some (.int zs) := by rw [efs18, List.getElem?_set_ne (by decide)]; exact hf2
    have hfs18_3 : fs18[3]? = some (.int 0) := by rw [efs18, List.getElem?_set_ne (by decide)]; exact hf3
    have hfs18_4 : fs18[4]? = some (.int fc) := by rw [efs18, List.getElem?_set_ne (by decide)]; exact hf4
    have hfs18_5 : fs18[5]? = some (.int fa) := by rw [efs18, List.getElem?_set_ne (by decide)]; exact hf5
    have hfs18_6 : fs18[6]? = some (.int fl) := by rw [efs18, List.getElem?_set_ne (by decide)]; exact hf6
    have hfs18_0 : fs18[0]? = some (.int 1) := by rw [efs18]; exact List.getElem?_set_self (by omega)
    have hlfs18 : fs18.length = 160 := by rw [efs18, List.length_set]; exact hl0
    refine lv_aload_n hx hb ld_X12_result_30 rfl (lv_at hl 0 rfl) ?_
    refine va_get (D := D) (ci := 0) (v := .int 1) (C := "TableTongueModel") (T := al_TX12) (N := 160) hx hb hts hin hown hK hP 0 rfl rfl 0 (by decide) (hts (.fieldLink "TableTongueModel" 335 "TableTongueModel" "thrown" "I") (List.mem_cons_of_mem _ (lw_in 3069 (by decide +kernel) (by decide +kernel)))) (fun _ h9 => h9) hfs18_0 ld_X12_result_31 ?_
    refine lv_if_le (tgt := 39) hx hb ld_X12_result_34 (by decide) (fun z => absurd z (by decide)) (fun _ => ?_)
    refine lv_lconst (v := 0) hx hb ld_X12_result_37 (by decide) ?_
    subst efs18
    exact W.lret (v := 0) hx hb hr (fun t ht hW => ⟨⟨0, (), rfl, rfl, by rw [ht]; exact hP, va_K.moved hW.alike hK, hD⟩, hS.F ht⟩) hS.2.2 ld_X12_result_38
set_option maxHeartbeats 4000000 in
set_option maxRecDepth 100000 in
theorem um_X12_resultByte (l : Launch) (D : va_G) (q0 sz : Nat) (fs : List Value) (hl0 : fs.length = 160) {tv zs fc fa fl : Int32} (hf0 : fs[0]? = some (.int tv)) (hf2 : fs[2]? = some (.int zs)) (hf3 : fs[3]? = some (.int 0)) (hf4 : fs[4]? = some (.int fc)) (hf5 : fs[5]? = some (.int fa)) (hf6 : fs[6]? = some (.int fl)) (a1 : Int32) (a2 : Int32)  : Met l ly_X12_resultByte (lw_w ly_X12_resultByte prog_14_method_247_code 3 (some .int)) ({ frames := 2, cells := 0, slots := 0, locals := 80 }) (lw_PM D q0 fs sz [.ref q0, .int a1, .int a2]) (va_Qi (S := Unit) (fun r _ => r = 0) (fun _ U => va_P D al_cl [(q0, .inr (0, (fs.set 0 (.int 1))))] U.heap ∧ va_K D al_cl [] U ∧ va_D (va_A [(q0, .inr (0, fs))] sz) [(q0, .inr (0, (fs.set 0 (.int 1))))]) (va_A [(q0, .inr (0, fs))] sz)) 0 0 (va_A [(q0, .inr (0, fs))] sz) := by
  refine Met.ofW (cc := prog_14_method_247_code) (maxL := 3) (ret := (some .int)) (by decide) rfl ?_
  intro p e s m args below meth c s₁ B hml hv
  obtain ⟨rfl, hsz, hP, hK, hD0⟩ := hv
  subst hsz
  have hx := B.exec
  have hb := B.bytes
  have hr := B.returns
  have hts := atoms_spec (ws := lw_w ly_X12_resultByte prog_14_method_247_code 3 (some .int)) B.pre
  have hin : ∀ w ∈ u_ws "TableTongueModel" al_TX12 160, w ∈ lw_w ly_X12_resultByte prog_14_method_247_code 3 (some .int) := fun w hw => List.mem_cons_of_mem _ (lw_u (ci := 0) rfl w hw)
  have hown : s.vm.findClass "TableTongueModel" = some m.cls := findClass_of_methodNamed B.named
  have hD := hD0.self (sz := s.heap.size)
  generalize hAe : va_A [(q0, .inr (0, fs))] s.heap.size = A at hD ⊢
  have hA : ∀ q : Nat, s.heap.size ≤ q → A q := fun q h => by rw [← hAe]; exact Or.inr h
  have hS : va_S A s.heap s.heap [] := va_S.rf
  have hl := lv_entry ([.ref q0, .int a1, .int a2]) (n := 3) (Nat.le_of_ble_eq_true rfl)
  rw [lg_entry_eq]
  generalize (lg_sl ([.ref q0, .int a1, .int a2]) ++ List.replicate (3 - (lg_sl ([.ref q0, .int a1, .int a2])).length) Slot.unset).toArray = ls at hl ⊢
  have hl : lv_has ls 3 [(0, .ref q0), (1, .int a1), (2, .int a2)] := hl
  refine lv_aload_n hx hb ld_X12_resultByte_0 rfl (lv_at hl 0 rfl) ?_
  refine lv_iload_n hx hb ld_X12_resultByte_1 rfl (lv_at hl 1 rfl) ?_
  refine lv_if_lt (tgt := 43) hx hb ld_X12_resultByte_2 (by decide) (fun c_1 => ?_) (fun c_1 => ?_)
  · skip
    refine lv_iconst (v := 1) hx hb ld_X12_resultByte_43 (by decide) ?_
    refine lv_goto (tgt := 48) hx hb ld_X12_resultByte_44 (by decide) ?_
    refine va_put (D := D) (ci := 0) (v := .int 1) (ty := .int) (C := "TableTongueModel") (T := al_TX12) (N := 160) hx hb hts hin (al_tyf 0) (al_Cls.2 0 _ _ _ rfl).2.1 (al_Cls.2 0 _ _ _ rfl).2.2 hown hK hP hD hS 0 rfl rfl 0 (by decide) (hts (.fieldLink "TableTongueModel" 335 "TableTongueModel" "thrown" "I") (List.mem_cons_of_mem _ (lw_in 3069 (by decide +kernel) (by decide +kernel)))) (fun _ h9 => h9) rfl (by decide +kernel) rfl rfl (by omega) ld_X12_resultByte_48 (fun H locs hP hD hS => ?_)
    obtain ⟨fs19, efs19⟩ : ∃ z, z = fs.set 0 (.int 1) := ⟨_, rfl⟩
    have hP : va_P D al_cl [(q0, .inr (0, fs19))] H := by rw [efs19]; exact hP
    have hD : va_D A [(q0, .inr (0, fs19))] := by rw [efs19]; exact hD
    have hfs19_2 : fs19[2]? = some (.int zs) := by rw [efs19, List.getElem?_set_ne (by decide)]; exact hf2
    have hfs19_3 : fs19[3]? = some (.int 0) := by rw [efs19, List.getElem?_set_ne (by decide)]; exact hf3
    have hfs19_4 : fs19[4]? = some (.int fc) := by rw [efs19, List.getElem?_set_ne (by decide)]; exact hf4
    have hfs19_5 : fs19[5]? = some (.int fa) := by rw [efs19, List.getElem?_set_ne (by decide)]; exact hf5
    have hfs19_6 : fs19[6]? = some (.int fl) := by rw [efs19, List.getElem?_set_ne (by decide)]; exact hf6
    have hfs19_0 : fs19[0]? = some (.int 1) := by rw [efs19]; exact List.getElem?_set_self (by omega)
    have hlfs19 : fs19.length = 160 := by rw [efs19, List.length_set]; exact hl0
    refine lv_aload_n hx hb ld_X12_resultByte_51 rfl (lv_at hl 0 rfl) ?_
    refine va_get (D := D) (ci := 0) (v := .int 1) (C := "TableTongueModel") (T := al_TX12) (N := 160) hx hb hts hin hown hK hP 0 rfl rfl 0 (by decide) (hts (.fieldLink "TableTongueModel" 335 "TableTongueModel" "thrown" "I") (List.mem_cons_of_mem _ (lw_in 3069 (by decide +kernel) (by decide +kernel)))) (fun _ h9 => h9) hfs19_0 ld_X12_resultByte_52 ?_
    refine lv_if_le (tgt := 62) hx hb ld_X12_resultByte_55 (by decide) (fun z => absurd z (by decide)) (fun _ => ?_)
    refine lv_iconst (v := 0) hx hb ld_X12_resultByte_58 (by decide) ?_
    refine lv_goto (tgt := 85) hx hb ld_X12_resultByte_59 (by decide) ?_
    subst efs19
    exact W.iret (v := 0) hx hb hr (fun t ht hW => ⟨⟨0, (), rfl, rfl, by rw [ht]; exact hP, va_K.moved hW.alike hK, hD⟩, hS.F ht⟩) hS.2.2 ld_X12_resultByte_85
  · skip
    refine lv_iload_n hx hb ld_X12_resultByte_5 rfl (lv_at hl 1 rfl) ?_
    refine lv_aload_n hx hb ld_X12_resultByte_6 rfl (lv_at hl 0 rfl) ?_
    refine va_calli (va_runV (As := []) (rest := [.int a1, .ref q0]) (C := "TableTongueModel") (Ts := lw_w ly_X12_resultByte prog_14_method_247_code 3 (some .int)) ⟨hx, hb, hml, hown, hts⟩ (m_X12_results0 l D q0 s.heap.size fs hf3) ⟨callB_of 0 hts (lw_GoodIn (List.mem_cons_of_mem _ (lw_in 4546 (by decide +kernel) (by decide +kernel))) (by decide +kernel)) rfl rfl rfl (hts _ (List.mem_cons_of_mem _ (lw_in 423 (by decide +kernel) (by decide +kernel)))) (hts _ (List.mem_cons_of_mem _ (lw_in 4543 (by decide +kernel) (by decide +kernel)))) ⟨by decide, by decide, by decide +kernel⟩ ⟨Nat.le_of_ble_eq_true rfl, Nat.le_of_ble_eq_true rfl⟩, hts _ (List.mem_cons_of_mem _ (lw_in 4545 (by decide +kernel) (by decide +kernel))), hts _ (List.mem_cons_of_mem _ (lw_in 390 (by decide +kernel) (by decide +kernel)))⟩ ⟨lw_PM.blind, va_recv hK hP (ci := 0) (q0 := 0) rfl rfl, fun U hU hW => ⟨rfl, by rw [hU], by rw [hU]; exact hP, va_K.moved hW.alike hK, hD.weaken (fun _ _ _ _ => trivial)⟩⟩ rfl rfl hl.1 rfl (lv_room (Nat.le_of_ble_eq_true rfl)) ld_X12_resultByte_7 ⟨Nat.le_of_ble_eq_true rfl, Nat.le_of_ble_eq_true rfl⟩) hS (fun q h1 h => absurd h (Nat.not_le.mpr h1)) (fun q h => hA q (Nat.le_trans hS.1 h)) (fun r_7 u t H1 locs1 ht hvm hw _ hz1 hk1 hS => ?_)
    obtain rfl : r_7 = 0 := hw
    have hP : va_P D al_cl [(q0, .inr (0, fs))] H1 := hP.kept (fun k q hk => hk1 q.1 (hP k q hk).lt (Nat.not_le.mpr (hP k q hk).lt))
    refine lv_icmp_ge (tgt := 43) hx hb ld_X12_resultByte_10 (by decide) (fun _ => ?_) (fun z => absurd (by first | exact Int32.not_lt.mp c_1 | omega) z)
    refine lv_iconst (v := 1) hx hb ld_X12_resultByte_43 (by decide) ?_
    refine lv_goto (tgt := 48) hx hb ld_X12_resultByte_44 (by decide) ?_
    refine va_put (D := D) (ci := 0) (v := .int 1) (ty := .int) (C := "TableTongueModel") (T := al_TX12) (N := 160) hx hb hts hin (al_tyf 0) (al_Cls.2 0 _ _ _ rfl).2.1 (al_Cls.2 0 _ _ _ rfl).2.2 hown hK hP hD hS 0 rfl rfl 0 (by decide) (hts (.fieldLink "TableTongueModel" 335 "TableTongueModel" "thrown" "I") (List.mem_cons_of_mem _ (lw_in 3069 (by decide +kernel) (by decide +kernel)))) (fun _ h9 => h9) rfl (by decide +kernel) rfl rfl (by omega) ld_X12_resultByte_48 (fun H locs hP hD hS => ?_)
    obtain ⟨fs20, efs20⟩ : ∃ z, z = fs.set 0 (.int 1) := ⟨_, rfl⟩
    have hP : va_P D al_cl [(q0, .inr (0, fs20))] H := by rw [efs20]; exact hP
    have hD : va_D A [(q0, .inr (0, fs20))] := by rw [efs20]; exact hD
    have hfs20_2 : fs20[2]? = some (.int zs) := by rw [efs20, List.getElem?_set_ne (by decide)]; exact hf2
    have hfs20_3 : fs20[3]? = some (.int 0) := by rw [efs20, List.getElem?_set_ne (by decide)]; exact hf3
    have hfs20_4 : fs20[4]? = some (.int fc) := by rw [efs20, List.getElem?_set_ne (by decide)]; exact hf4
    have hfs20_5 : fs20[5]? = some (.int fa) := by rw [efs20, List.getElem?_set_ne (by decide)]; exact hf5
    have hfs20_6 : fs20[6]? = some (.int fl) := by rw [efs20, List.getElem?_set_ne (by decide)]; exact hf6
    have hfs20_0 : fs20[0]? = some (.int 1) := by rw [efs20]; exact List.getElem?_set_self (by omega)
    have hlfs20 : fs20.length = 160 := by rw [efs20, List.length_set]; exact hl0
    refine lv_aload_n hx hb ld_X12_resultByte_51 rfl (lv_at hl 0 rfl) ?_
    refine va_get (D := D) (ci := 0) (v := .int 1) (C := "TableTongueModel") (T := al_TX12) (N := 160) hx hb hts hin hown hK hP 0 rfl rfl 0 (by decide) (hts (.fieldLink "TableTongueModel" 335 "TableTongueModel" "thrown" "I") (List.mem_cons_of_mem _ (lw_in 3069 (by decide +kernel) (by decide +kernel)))) (fun _ h9 => h9) hfs20_0 ld_X12_resultByte_52 ?_
    refine lv_if_le (tgt := 62) hx hb ld_X12_resultByte_55 (by decide) (fun z => absurd z (by decide)) (fun _ => ?_)
    refine lv_iconst (v := 0) hx hb ld_X12_resultByte_58 (by decide) ?_
    refine lv_goto (tgt := 85) hx hb ld_X12_resultByte_59 (by decide) ?_
    subst efs20
    exact W.iret (v := 0) hx hb hr (fun t ht hW => ⟨⟨0, (), rfl, rfl, by rw [ht]; exact hP, va_K.moved hW.alike hK, hD⟩, hS.F ht⟩) hS.2.2 ld_X12_resultByte_85
set_option maxHeartbeats 4000000 in
set_option maxRecDepth 100000 in
theorem um_X12_outputs (l : Launch) (D : va_G) (q0 sz : Nat) (fs : List Value) (hl0 : fs.length = 160) {tv zs fc fa fl : Int32} (hf0 : fs[0]? = some (.int tv)) (hf2 : fs[2]? = some (.int zs)) (hf3 : fs[3]? = some (.int 0)) (hf4 : fs[4]? = some (.int fc)) (hf5 : fs[5]? = some (.int fa)) (hf6 : fs[6]? = some (.int fl))   : Met l ly_X12_outputs (lw_w ly_X12_outputs prog_14_method_248_code 1 (some .int)) ({ frames := 2, cells := 0, slots := 0, locals := 80 }) (lw_PM D q0 fs sz [.ref q0]) (va_Qi (S := Unit) (fun r _ => r = 0) (fun _ U => va_P D al_cl [(q0, .inr (0, (fs.set 0 (.int 0))))] U.heap ∧ va_K D al_cl [] U ∧ va_D (va_A [(q0, .inr (0, fs))] sz) [(q0, .inr (0, (fs.set 0 (.int 0))))]) (va_A [(q0, .inr (0, fs))] sz)) 0 0 (va_A [(q0, .inr (0, fs))] sz) := by
  refine Met.ofW (cc := prog_14_method_248_code) (maxL := 1) (ret := (some .int)) (by decide) rfl ?_
  intro p e s m args below meth c s₁ B hml hv
  obtain ⟨rfl, hsz, hP, hK, hD0⟩ := hv
  subst hsz
  have hx := B.exec
  have hb := B.bytes
  have hr := B.returns
  have hts := atoms_spec (ws := lw_w ly_X12_outputs prog_14_method_248_code 1 (some .int)) B.pre
  have hin : ∀ w ∈ u_ws "TableTongueModel" al_TX12 160, w ∈ lw_w ly_X12_outputs prog_14_method_248_code 1 (some .int) := fun w hw => List.mem_cons_of_mem _ (lw_u (ci := 0) rfl w hw)
  have hown : s.vm.findClass "TableTongueModel" = some m.cls := findClass_of_methodNamed B.named
  have hD := hD0.self (sz := s.heap.size)
  generalize hAe : va_A [(q0, .inr (0, fs))] s.heap.size = A at hD ⊢
  have hA : ∀ q : Nat, s.heap.size ≤ q → A q := fun q h => by rw [← hAe]; exact Or.inr h
  have hS : va_S A s.heap s.heap [] := va_S.rf
  have hl := lv_entry ([.ref q0]) (n := 1) (Nat.le_of_ble_eq_true rfl)
  rw [lg_entry_eq]
  generalize (lg_sl ([.ref q0]) ++ List.replicate (1 - (lg_sl ([.ref q0])).length) Slot.unset).toArray = ls at hl ⊢
  have hl : lv_has ls 1 [(0, .ref q0)] := hl
  refine lv_aload_n hx hb ld_X12_outputs_0 rfl (lv_at hl 0 rfl) ?_
  refine lv_iconst (v := 0) hx hb ld_X12_outputs_1 (by decide) ?_
  refine va_put (D := D) (ci := 0) (v := .int 0) (ty := .int) (C := "TableTongueModel") (T := al_TX12) (N := 160) hx hb hts hin (al_tyf 0) (al_Cls.2 0 _ _ _ rfl).2.1 (al_Cls.2 0 _ _ _ rfl).2.2 hown hK hP hD hS 0 rfl rfl 0 (by decide) (hts (.fieldLink "TableTongueModel" 335 "TableTongueModel" "thrown" "I") (List.mem_cons_of_mem _ (lw_in 3069 (by decide +kernel) (by decide +kernel)))) (fun _ h9 => h9) rfl (by decide +kernel) rfl rfl (by omega) ld_X12_outputs_2 (fun H locs hP hD hS => ?_)
  obtain ⟨fs21, efs21⟩ : ∃ z, z = fs.set 0 (.int 0) := ⟨_, rfl⟩
  have hP : va_P D al_cl [(q0, .inr (0, fs21))] H := by rw [efs21]; exact hP
  have hD : va_D A [(q0, .inr (0, fs21))] := by rw [efs21]; exact hD
  have hfs21_2 : fs21[2]? = some (.int zs) := by rw [efs21, List.getElem?_set_ne (by decide)]; exact hf2
  have hfs21_3 : fs21[3]? = some (.int 0) := by rw [efs21, List.getElem?_set_ne (by decide)]; exact hf3
  have hfs21_4 : fs21[4]? = some (.int fc) := by rw [efs21, List.getElem?_set_ne (by decide)]; exact hf4
  have hfs21_5 : fs21[5]? = some (.int fa) := by rw [efs21, List.getElem?_set_ne (by decide)]; exact hf5
  have hfs21_6 : fs21[6]? = some (.int fl) := by rw [efs21, List.getElem?_set_ne (by decide)]; exact hf6
  have hfs21_0 : fs21[0]? = some (.int 0) := by rw [efs21]; exact List.getElem?_set_self (by omega)
  have hlfs21 : fs21.length = 160 := by rw [efs21, List.length_set]; exact hl0
  refine lv_aload_n hx hb ld_X12_outputs_5 rfl (lv_at hl 0 rfl) ?_
  refine va_get (D := D) (ci := 0) (v := .int 0) (C := "TableTongueModel") (T := al_TX12) (N := 160) hx hb hts hin hown hK hP 0 rfl rfl 3 (by decide) (hts (.fieldLink "TableTongueModel" 509 "TableTongueModel" "compiled" "Z") (List.mem_cons_of_mem _ (lw_in 3072 (by decide +kernel) (by decide +kernel)))) (fun _ h9 => h9) hfs21_3 ld_X12_outputs_6 ?_
  refine lv_if_eq (tgt := 19) hx hb ld_X12_outputs_9 (by decide) (fun _ => ?_) (fun z => absurd z (by decide))
  refine lv_iconst (v := 0) hx hb ld_X12_outputs_19 (by decide) ?_
  subst efs21
  exact W.iret (v := 0) hx hb hr (fun t ht hW => ⟨⟨0, (), rfl, rfl, by rw [ht]; exact hP, va_K.moved hW.alike hK, hD⟩, hS.F ht⟩) hS.2.2 ld_X12_outputs_20
set_option maxHeartbeats 4000000 in
set_option maxRecDepth 100000 in
theorem um_X12_output (l : Launch) (D : va_G) (q0 sz : Nat) (fs : List Value) (hl0 : fs.length = 160) {tv zs fc fa fl : Int32} (hf0 : fs[0]? = some (.int tv)) (hf2 : fs[2]? = some (.int zs)) (hf3 : fs[3]? = some (.int 0)) (hf4 : fs[4]? = some (.int fc)) (hf5 : fs[5]? = some (.int fa)) (hf6 : fs[6]? = some (.int fl)) (a1 : Int32)  : Met l ly_X12_output (lw_w ly_X12_output prog_14_method_249_code 2 (some .int)) ({ frames := 2, cells := 0, slots := 0, locals := 80 }) (lw_PM D q0 fs sz [.ref q0, .int a1]) (va_Qi (S := Unit) (fun r _ => r = 0) (fun _ U => va_P D al_cl [(q0, .inr (0, (fs.set 0 (.int 1))))] U.heap ∧ va_K D al_cl [] U ∧ va_D (va_A [(q0, .inr (0, fs))] sz) [(q0, .inr (0, (fs.set 0 (.int 1))))]) (va_A [(q0, .inr (0, fs))] sz)) 0 0 (va_A [(q0, .inr (0, fs))] sz) := by
  refine Met.ofW (cc := prog_14_method_249_code) (maxL := 2) (ret := (some .int)) (by decide) rfl ?_
  intro p e s m args below meth c s₁ B hml hv
  obtain ⟨rfl, hsz, hP, hK, hD0⟩ := hv
  subst hsz
  have hx := B.exec
  have hb := B.bytes
  have hr := B.returns
  have hts := atoms_spec (ws := lw_w ly_X12_output prog_14_method_249_code 2 (some .int)) B.pre
  have hin : ∀ w ∈ u_ws "TableTongueModel" al_TX12 160, w ∈ lw_w ly_X12_output prog_14_method_249_code 2 (some .int) := fun w hw => List.mem_cons_of_mem _ (lw_u (ci := 0) rfl w hw)
  have hown : s.vm.findClass "TableTongueModel" = some m.cls := findClass_of_methodNamed B.named
  have hD := hD0.self (sz := s.heap.size)
  generalize hAe : va_A [(q0, .inr (0, fs))] s.heap.size = A at hD ⊢
  have hA : ∀ q : Nat, s.heap.size ≤ q → A q := fun q h => by rw [← hAe]; exact Or.inr h
  have hS : va_S A s.heap s.heap [] := va_S.rf
  have hl := lv_entry ([.ref q0, .int a1]) (n := 2) (Nat.le_of_ble_eq_true rfl)
  rw [lg_entry_eq]
  generalize (lg_sl ([.ref q0, .int a1]) ++ List.replicate (2 - (lg_sl ([.ref q0, .int a1])).length) Slot.unset).toArray = ls at hl ⊢
  have hl : lv_has ls 2 [(0, .ref q0), (1, .int a1)] := hl
  refine lv_aload_n hx hb ld_X12_output_0 rfl (lv_at hl 0 rfl) ?_
  refine lv_aload_n hx hb ld_X12_output_1 rfl (lv_at hl 0 rfl) ?_
  refine va_get (D := D) (ci := 0) (v := .int 0) (C := "TableTongueModel") (T := al_TX12) (N := 160) hx hb hts hin hown hK hP 0 rfl rfl 3 (by decide) (hts (.fieldLink "TableTongueModel" 509 "TableTongueModel" "compiled" "Z") (List.mem_cons_of_mem _ (lw_in 3072 (by decide +kernel) (by decide +kernel)))) (fun _ h9 => h9) hf3 ld_X12_output_2 ?_
  refine lv_if_eq (tgt := 27) hx hb ld_X12_output_5 (by decide) (fun _ => ?_) (fun z => absurd z (by decide))
  refine lv_iconst (v := 1) hx hb ld_X12_output_27 (by decide) ?_
  refine lv_goto (tgt := 32) hx hb ld_X12_output_28 (by decide) ?_
  refine va_put (D := D) (ci := 0) (v := .int 1) (ty := .int) (C := "TableTongueModel") (T := al_TX12) (N := 160) hx hb hts hin (al_tyf 0) (al_Cls.2 0 _ _ _ rfl).2.1 (al_Cls.2 0 _ _ _ rfl).2.2 hown hK hP hD hS 0 rfl rfl 0 (by decide) (hts (.fieldLink "TableTongueModel" 335 "TableTongueModel" "thrown" "I") (List.mem_cons_of_mem _ (lw_in 3069 (by decide +kernel) (by decide +kernel)))) (fun _ h9 => h9) rfl (by decide +kernel) rfl rfl (by omega) ld_X12_output_32 (fun H locs hP hD hS => ?_)
  obtain ⟨fs22, efs22⟩ : ∃ z, z = fs.set 0 (.int 1) := ⟨_, rfl⟩
  have hP : va_P D al_cl [(q0, .inr (0, fs22))] H := by rw [efs22]; exact hP
  have hD : va_D A [(q0, .inr (0, fs22))] := by rw [efs22]; exact hD
  have hfs22_2 : fs22[2]? = some (.int zs) := by rw [efs22, List.getElem?_set_ne (by decide)]; exact hf2
  have hfs22_3 : fs22[3]? = some (.int 0) := by rw [efs22, List.getElem?_set_ne (by decide)]; exact hf3
  have hfs22_4 : fs22[4]? = some (.int fc) := by rw [efs22, List.getElem?_set_ne (by decide)]; exact hf4
  have hfs22_5 : fs22[5]? = some (.int fa) := by rw [efs22, List.getElem?_set_ne (by decide)]; exact hf5
  have hfs22_6 : fs22[6]? = some (.int fl) := by rw [efs22, List.getElem?_set_ne (by decide)]; exact hf6
  have hfs22_0 : fs22[0]? = some (.int 1) := by rw [efs22]; exact List.getElem?_set_self (by omega)
  have hlfs22 : fs22.length = 160 := by rw [efs22, List.length_set]; exact hl0
  refine lv_aload_n hx hb ld_X12_output_35 rfl (lv_at hl 0 rfl) ?_
  refine va_get (D := D) (ci := 0) (v := .int 1) (C := "TableTongueModel") (T := al_TX12) (N := 160) hx hb hts hin hown hK hP 0 rfl rfl 0 (by decide) (hts (.fieldLink "TableTongueModel" 335 "TableTongueModel" "thrown" "I") (List.mem_cons_of_mem _ (lw_in 3069 (by decide +kernel) (by decide +kernel)))) (fun _ h9 => h9) hfs22_0 ld_X12_output_36 ?_
  refine lv_if_le (tgt := 46) hx hb ld_X12_output_39 (by decide) (fun z => absurd z (by decide)) (fun _ => ?_)
  refine lv_iconst (v := 0) hx hb ld_X12_output_42 (by decide) ?_
  refine lv_goto (tgt := 56) hx hb ld_X12_output_43 (by decide) ?_
  subst efs22
  exact W.iret (v := 0) hx hb hr (fun t ht hW => ⟨⟨0, (), rfl, rfl, by rw [ht]; exact hP, va_K.moved hW.alike hK, hD⟩, hS.F ht⟩) hS.2.2 ld_X12_output_56
set_option maxHeartbeats 4000000 in
set_option maxRecDepth 100000 in
theorem um_X12_object_ (l : Launch) (D : va_G) (q0 sz : Nat) (fs : List Value) (hl0 : fs.length = 160) {tv zs fc fa fl : Int32} (hf0 : fs[0]? = some (.int tv)) (hf2 : fs[2]? = some (.int zs)) (hf3 : fs[3]? = some (.int 0)) (hf4 : fs[4]? = some (.int fc)) (hf5 : fs[5]? = some (.int fa)) (hf6 : fs[6]? = some (.int fl)) (a1 : Int32) (a2 : Int32)  : Met l ly_X12_object_ (lw_w ly_X12_object_ prog_14_method_252_code 3 (some .int)) ({ frames := 2, cells := 0, slots := 0, locals := 80 }) (lw_PM D q0 fs sz [.ref q0, .int a1, .int a2]) (va_Qi (S := Unit) (fun r _ => r = 0) (fun _ U => va_P D al_cl [(q0, .inr (0, (fs.set 0 (.int 1))))] U.heap ∧ va_K D al_cl [] U ∧ va_D (va_A [(q0, .inr (0, fs))] sz) [(q0, .inr (0, (fs.set 0 (.int 1))))]) (va_A [(q0, .inr (0, fs))] sz)) 0 0 (va_A [(q0, .inr (0, fs))] sz) := by
  refine Met.ofW (cc := prog_14_method_252_code) (maxL := 3) (ret := (some .int)) (by decide) rfl ?_
  intro p e s m args below meth c s₁ B hml hv
  obtain ⟨rfl, hsz, hP, hK, hD0⟩ := hv
  subst hsz
  have hx := B.exec
  have hb := B.bytes
  have hr := B.returns
  have hts := atoms_spec (ws := lw_w ly_X12_object_ prog_14_method_252_code 3 (some .int)) B.pre
  have hin : ∀ w ∈ u_ws "TableTongueModel" al_TX12 160, w ∈ lw_w ly_X12_object_ prog_14_method_252_code 3 (some .int) := fun w hw => List.mem_cons_of_mem _ (lw_u (ci := 0) rfl w hw)
  have hown : s.vm.findClass "TableTongueModel" = some m.cls := findClass_of_methodNamed B.named
  have hD := hD0.self (sz := s.heap.size)
  generalize hAe : va_A [(q0, .inr (0, fs))] s.heap.size = A at hD ⊢
  have hA : ∀ q : Nat, s.heap.size ≤ q → A q := fun q h => by rw [← hAe]; exact Or.inr h
  have hS : va_S A s.heap s.heap [] := va_S.rf
  have hl := lv_entry ([.ref q0, .int a1, .int a2]) (n := 3) (Nat.le_of_ble_eq_true rfl)
  rw [lg_entry_eq]
  generalize (lg_sl ([.ref q0, .int a1, .int a2]) ++ List.replicate (3 - (lg_sl ([.ref q0, .int a1, .int a2])).length) Slot.unset).toArray = ls at hl ⊢
  have hl : lv_has ls 3 [(0, .ref q0), (1, .int a1), (2, .int a2)] := hl
  refine lv_aload_n hx hb ld_X12_object__0 rfl (lv_at hl 0 rfl) ?_
  refine lv_aload_n hx hb ld_X12_object__1 rfl (lv_at hl 0 rfl) ?_
  refine va_get (D := D) (ci := 0) (v := .int 0) (C := "TableTongueModel") (T := al_TX12) (N := 160) hx hb hts hin hown hK hP 0 rfl rfl 3 (by decide) (hts (.fieldLink "TableTongueModel" 509 "TableTongueModel" "compiled" "Z") (List.mem_cons_of_mem _ (lw_in 3072 (by decide +kernel) (by decide +kernel)))) (fun _ h9 => h9) hf3 ld_X12_object__2 ?_
  refine lv_if_eq (tgt := 30) hx hb ld_X12_object__5 (by decide) (fun _ => ?_) (fun z => absurd z (by decide))
  refine lv_iconst (v := 1) hx hb ld_X12_object__30 (by decide) ?_
  refine lv_goto (tgt := 35) hx hb ld_X12_object__31 (by decide) ?_
  refine va_put (D := D) (ci := 0) (v := .int 1) (ty := .int) (C := "TableTongueModel") (T := al_TX12) (N := 160) hx hb hts hin (al_tyf 0) (al_Cls.2 0 _ _ _ rfl).2.1 (al_Cls.2 0 _ _ _ rfl).2.2 hown hK hP hD hS 0 rfl rfl 0 (by decide) (hts (.fieldLink "TableTongueModel" 335 "TableTongueModel" "thrown" "I") (List.mem_cons_of_mem _ (lw_in 3069 (by decide +kernel) (by decide +kernel)))) (fun _ h9 => h9) rfl (by decide +kernel) rfl rfl (by omega) ld_X12_object__35 (fun H locs hP hD hS => ?_)
  obtain ⟨fs23, efs23⟩ : ∃ z, z = fs.set 0 (.int 1) := ⟨_, rfl⟩
  have hP : va_P D al_cl [(q0, .inr (0, fs23))] H := by rw [efs23]; exact hP
  have hD : va_D A [(q0, .inr (0, fs23))] := by rw [efs23]; exact hD
  have hfs23_2 : fs23[2]? = some (.int zs) := by rw [efs23, List.getElem?_set_ne (by decide)]; exact hf2
  have hfs23_3 : fs23[3]? = some (.int 0) := by rw [efs23, List.getElem?_set_ne (by decide)]; exact hf3
  have hfs23_4 : fs23[4]? = some (.int fc) := by rw [efs23, List.getElem?_set_ne (by decide)]; exact hf4
  have hfs23_5 : fs23[5]? = some (.int fa) := by rw [efs23, List.getElem?_set_ne (by decide)]; exact hf5
  have hfs23_6 : fs23[6]? = some (.int fl) := by rw [efs23, List.getElem?_set_ne (by decide)]; exact hf6
  have hfs23_0 : fs23[0]? = some (.int 1) := by rw [efs23]; exact List.getElem?_set_self (by omega)
  have hlfs23 : fs23.length = 160 := by rw [efs23, List.length_set]; exact hl0
  refine lv_aload_n hx hb ld_X12_object__38 rfl (lv_at hl 0 rfl) ?_
  refine va_get (D := D) (ci := 0) (v := .int 1) (C := "TableTongueModel") (T := al_TX12) (N := 160) hx hb hts hin hown hK hP 0 rfl rfl 0 (by decide) (hts (.fieldLink "TableTongueModel" 335 "TableTongueModel" "thrown" "I") (List.mem_cons_of_mem _ (lw_in 3069 (by decide +kernel) (by decide +kernel)))) (fun _ h9 => h9) hfs23_0 ld_X12_object__39 ?_
  refine lv_if_gt (tgt := 54) hx hb ld_X12_object__42 (by decide) (fun _ => ?_) (fun z => absurd z (by decide))
  refine lv_iconst (v := 0) hx hb ld_X12_object__54 (by decide) ?_
  subst efs23
  exact W.iret (v := 0) hx hb hr (fun t ht hW => ⟨⟨0, (), rfl, rfl, by rw [ht]; exact hP, va_K.moved hW.alike hK, hD⟩, hS.F ht⟩) hS.2.2 ld_X12_object__55
set_option maxHeartbeats 4000000 in
set_option maxRecDepth 100000 in
theorem um_X12_place (l : Launch) (D : va_G) (q0 sz : Nat) (fs : List Value) (hl0 : fs.length = 160) {tv zs fc fa fl : Int32} (hf0 : fs[0]? = some (.int tv)) (hf2 : fs[2]? = some (.int zs)) (hf3 : fs[3]? = some (.int 0)) (hf4 : fs[4]? = some (.int fc)) (hf5 : fs[5]? = some (.int fa)) (hf6 : fs[6]? = some (.int fl)) (a1 : Int32) (a2 : Int32) (a3 : Int32)  : Met l ly_X12_place (lw_w ly_X12_place prog_14_method_253_code 9 (some .long)) ({ frames := 2, cells := 0, slots := 0, locals := 80 }) (lw_PM D q0 fs sz [.ref q0, .int a1, .int a2, .int a3]) (va_Ql (S := Unit) (fun r _ => r = 0) (fun _ U => va_P D al_cl [(q0, .inr (0, (fs.set 0 (.int 1))))] U.heap ∧ va_K D al_cl [] U ∧ va_D (va_A [(q0, .inr (0, fs))] sz) [(q0, .inr (0, (fs.set 0 (.int 1))))]) (va_A [(q0, .inr (0, fs))] sz)) 0 0 (va_A [(q0, .inr (0, fs))] sz) := by
  refine Met.ofW (cc := prog_14_method_253_code) (maxL := 9) (ret := (some .long)) (by decide) rfl ?_
  intro p e s m args below meth c s₁ B hml hv
  obtain ⟨rfl, hsz, hP, hK, hD0⟩ := hv
  subst hsz
  have hx := B.exec
  have hb := B.bytes
  have hr := B.returns
  have hts := atoms_spec (ws := lw_w ly_X12_place prog_14_method_253_code 9 (some .long)) B.pre
  have hin : ∀ w ∈ u_ws "TableTongueModel" al_TX12 160, w ∈ lw_w ly_X12_place prog_14_method_253_code 9 (some .long) := fun w hw => List.mem_cons_of_mem _ (lw_u (ci := 0) rfl w hw)
  have hown : s.vm.findClass "TableTongueModel" = some m.cls := findClass_of_methodNamed B.named
  have hD := hD0.self (sz := s.heap.size)
  generalize hAe : va_A [(q0, .inr (0, fs))] s.heap.size = A at hD ⊢
  have hA : ∀ q : Nat, s.heap.size ≤ q → A q := fun q h => by rw [← hAe]; exact Or.inr h
  have hS : va_S A s.heap s.heap [] := va_S.rf
  have hl := lv_entry ([.ref q0, .int a1, .int a2, .int a3]) (n := 9) (Nat.le_of_ble_eq_true rfl)
  rw [lg_entry_eq]
  generalize (lg_sl ([.ref q0, .int a1, .int a2, .int a3]) ++ List.replicate (9 - (lg_sl ([.ref q0, .int a1, .int a2, .int a3])).length) Slot.unset).toArray = ls at hl ⊢
  have hl : lv_has ls 9 [(0, .ref q0), (1, .int a1), (2, .int a2), (3, .int a3)] := hl
  refine lv_aload_n hx hb ld_X12_place_0 rfl (lv_at hl 0 rfl) ?_
  refine va_get (D := D) (ci := 0) (v := .int 0) (C := "TableTongueModel") (T := al_TX12) (N := 160) hx hb hts hin hown hK hP 0 rfl rfl 3 (by decide) (hts (.fieldLink "TableTongueModel" 509 "TableTongueModel" "compiled" "Z") (List.mem_cons_of_mem _ (lw_in 3072 (by decide +kernel) (by decide +kernel)))) (fun _ h9 => h9) hf3 ld_X12_place_1 ?_
  refine lv_if_eq (tgt := 47) hx hb ld_X12_place_4 (by decide) (fun _ => ?_) (fun z => absurd z (by decide))
  refine lv_iconst (v := 0) hx hb ld_X12_place_47 (by decide) ?_
  refine lv_istore (lv' := [(4, .int 0), (0, .ref q0), (1, .int a1), (2, .int a2), (3, .int a3)]) hx hb ld_X12_place_48 hl (by decide) rfl (fun ls hl => ?_)
  refine lv_iload hx hb ld_X12_place_50 (lv_at hl 0 rfl) ?_
  refine lv_if_eq (tgt := 64) hx hb ld_X12_place_52 (by decide) (fun _ => ?_) (fun z => absurd z (by decide))
  refine lv_iconst (v := (-1)) hx hb ld_X12_place_64 (by decide) ?_
  refine lv_istore (lv' := [(5, .int (-1)), (4, .int 0), (0, .ref q0), (1, .int a1), (2, .int a2), (3, .int a3)]) hx hb ld_X12_place_65 hl (by decide) rfl (fun ls hl => ?_)
  refine lv_iconst (v := 0) hx hb ld_X12_place_67 (by decide) ?_
  refine lv_istore (lv' := [(6, .int 0), (5, .int (-1)), (4, .int 0), (0, .ref q0), (1, .int a1), (2, .int a2), (3, .int a3)]) hx hb ld_X12_place_68 hl (by decide) rfl (fun ls hl => ?_)
  refine lv_iload hx hb ld_X12_place_70 (lv_at hl 0 rfl) ?_
  refine lv_iload_n hx hb ld_X12_place_72 rfl (lv_at hl 5 rfl) ?_
  refine lv_icmp_ge (tgt := 96) hx hb ld_X12_place_73 (by decide) (fun c_1 => ?_) (fun c_1 => ?_)
  · skip
    refine lv_aload_n hx hb ld_X12_place_96 rfl (lv_at hl 3 rfl) ?_
    refine lv_iload hx hb ld_X12_place_97 (lv_at hl 1 rfl) ?_
    refine lv_if_ge (tgt := 106) hx hb ld_X12_place_99 (by decide) (fun z => absurd z (by decide)) (fun _ => ?_)
    refine lv_iconst (v := 1) hx hb ld_X12_place_102 (by decide) ?_
    refine lv_goto (tgt := 107) hx hb ld_X12_place_103 (by decide) ?_
    refine va_put (D := D) (ci := 0) (v := .int 1) (ty := .int) (C := "TableTongueModel") (T := al_TX12) (N := 160) hx hb hts hin (al_tyf 0) (al_Cls.2 0 _ _ _ rfl).2.1 (al_Cls.2 0 _ _ _ rfl).2.2 hown hK hP hD hS 0 rfl rfl 0 (by decide) (hts (.fieldLink "TableTongueModel" 335 "TableTongueModel" "thrown" "I") (List.mem_cons_of_mem _ (lw_in 3069 (by decide +kernel) (by decide +kernel)))) (fun _ h9 => h9) rfl (by decide +kernel) rfl rfl (by omega) ld_X12_place_107 (fun H locs hP hD hS => ?_)
    obtain ⟨fs24, efs24⟩ : ∃ z, z = fs.set 0 (.int 1) := ⟨_, rfl⟩
    have hP : va_P D al_cl [(q0, .inr (0, fs24))] H := by rw [efs24]; exact hP
    have hD : va_D A [(q0, .inr (0, fs24))] := by rw [efs24]; exact hD
    have hfs24_2 : fs24[2]? = some (.int zs) := by rw [efs24, List.getElem?_set_ne (by decide)]; exact hf2
    have hfs24_3 : fs24[3]? = some (.int 0) := by rw [efs24, List.getElem?_set_ne (by decide)]; exact hf3
    have hfs24_4 : fs24[4]? = some (.int fc) := by rw [efs24, List.getElem?_set_ne (by decide)]; exact hf4
    have hfs24_5 : fs24[5]? = some (.int fa) := by rw [efs24, List.getElem?_set_ne (by decide)]; exact hf5
    have hfs24_6 : fs24[6]? = some (.int fl) := by rw [efs24, List.getElem?_set_ne (by decide)]; exact hf6
    have hfs24_0 : fs24[0]? = some (.int 1) := by rw [efs24]; exact List.getElem?_set_self (by omega)
    have hlfs24 : fs24.length = 160 := by rw [efs24, List.length_set]; exact hl0
    refine lv_aload_n hx hb ld_X12_place_110 rfl (lv_at hl 3 rfl) ?_
    refine va_get (D := D) (ci := 0) (v := .int 1) (C := "TableTongueModel") (T := al_TX12) (N := 160) hx hb hts hin hown hK hP 0 rfl rfl 0 (by decide) (hts (.fieldLink "TableTongueModel" 335 "TableTongueModel" "thrown" "I") (List.mem_cons_of_mem _ (lw_in 3069 (by decide +kernel) (by decide +kernel)))) (fun _ h9 => h9) hfs24_0 ld_X12_place_111 ?_
    refine lv_if_le (tgt := 119) hx hb ld_X12_place_114 (by decide) (fun z => absurd z (by decide)) (fun _ => ?_)
    refine lv_lconst (v := 0) hx hb ld_X12_place_117 (by decide) ?_
    subst efs24
    exact W.lret (v := 0) hx hb hr (fun t ht hW => ⟨⟨0, (), rfl, rfl, by rw [ht]; exact hP, va_K.moved hW.alike hK, hD⟩, hS.F ht⟩) hS.2.2 ld_X12_place_118
  · skip
    refine lv_iload hx hb ld_X12_place_76 (lv_at hl 1 rfl) ?_
    refine lv_if_lt (tgt := 96) hx hb ld_X12_place_78 (by decide) (fun _ => ?_) (fun z => absurd z (by decide))
    refine lv_aload_n hx hb ld_X12_place_96 rfl (lv_at hl 3 rfl) ?_
    refine lv_iload hx hb ld_X12_place_97 (lv_at hl 1 rfl) ?_
    refine lv_if_ge (tgt := 106) hx hb ld_X12_place_99 (by decide) (fun z => absurd z (by decide)) (fun _ => ?_)
    refine lv_iconst (v := 1) hx hb ld_X12_place_102 (by decide) ?_
    refine lv_goto (tgt := 107) hx hb ld_X12_place_103 (by decide) ?_
    refine va_put (D := D) (ci := 0) (v := .int 1) (ty := .int) (C := "TableTongueModel") (T := al_TX12) (N := 160) hx hb hts hin (al_tyf 0) (al_Cls.2 0 _ _ _ rfl).2.1 (al_Cls.2 0 _ _ _ rfl).2.2 hown hK hP hD hS 0 rfl rfl 0 (by decide) (hts (.fieldLink "TableTongueModel" 335 "TableTongueModel" "thrown" "I") (List.mem_cons_of_mem _ (lw_in 3069 (by decide +kernel) (by decide +kernel)))) (fun _ h9 => h9) rfl (by decide +kernel) rfl rfl (by omega) ld_X12_place_107 (fun H locs hP hD hS => ?_)
    obtain ⟨fs25, efs25⟩ : ∃ z, z = fs.set 0 (.int 1) := ⟨_, rfl⟩
    have hP : va_P D al_cl [(q0, .inr (0, fs25))] H := by rw [efs25]; exact hP
    have hD : va_D A [(q0, .inr (0, fs25))] := by rw [efs25]; exact hD
    have hfs25_2 : fs25[2]? = some (.int zs) := by rw [efs25, List.getElem?_set_ne (by decide)]; exact hf2
    have hfs25_3 : fs25[3]? = some (.int 0) := by rw [efs25, List.getElem?_set_ne (by decide)]; exact hf3
    have hfs25_4 : fs25[4]? = some (.int fc) := by rw [efs25, List.getElem?_set_ne (by decide)]; exact hf4
    have hfs25_5 : fs25[5]? = some (.int fa) := by rw [efs25, List.getElem?_set_ne (by decide)]; exact hf5
    have hfs25_6 : fs25[6]? = some (.int fl) := by rw [efs25, List.getElem?_set_ne (by decide)]; exact hf6
    have hfs25_0 : fs25[0]? = some (.int 1) := by rw [efs25]; exact List.getElem?_set_self (by omega)
    have hlfs25 : fs25.length = 160 := by rw [efs25, List.length_set]; exact hl0
    refine lv_aload_n hx hb ld_X12_place_110 rfl (lv_at hl 3 rfl) ?_
    refine va_get (D := D) (ci := 0) (v := .int 1) (C := "TableTongueModel") (T := al_TX12) (N := 160) hx hb hts hin hown hK hP 0 rfl rfl 0 (by decide) (hts (.fieldLink "TableTongueModel" 335 "TableTongueModel" "thrown" "I") (List.mem_cons_of_mem _ (lw_in 3069 (by decide +kernel) (by decide +kernel)))) (fun _ h9 => h9) hfs25_0 ld_X12_place_111 ?_
    refine lv_if_le (tgt := 119) hx hb ld_X12_place_114 (by decide) (fun z => absurd z (by decide)) (fun _ => ?_)
    refine lv_lconst (v := 0) hx hb ld_X12_place_117 (by decide) ?_
    subst efs25
    exact W.lret (v := 0) hx hb hr (fun t ht hW => ⟨⟨0, (), rfl, rfl, by rw [ht]; exact hP, va_K.moved hW.alike hK, hD⟩, hS.F ht⟩) hS.2.2 ld_X12_place_118
set_option maxHeartbeats 4000000 in
set_option maxRecDepth 100000 in
theorem um_X12_count_ok (l : Launch) (D : va_G) (q0 sz : Nat) (fs : List Value) (hl0 : fs.length = 160) {tv zs fc fa fl : Int32} (hf0 : fs[0]? = some (.int tv)) (hf2 : fs[2]? = some (.int zs)) (hf3 : fs[3]? = some (.int 0)) (hf4 : fs[4]? = some (.int fc)) (hf5 : fs[5]? = some (.int fa)) (hf6 : fs[6]? = some (.int fl)) (a1 : Int32) (hok0 : ¬ a1 < 0) (hok5 : a1 ≤ 5) : Met l ly_X12_count (lw_w ly_X12_count prog_14_method_251_code 2 (some .int)) ({ frames := 2, cells := 0, slots := 0, locals := 80 }) (lw_PM D q0 fs sz [.ref q0, .int a1]) (va_Qi (S := Unit) (fun r _ => r = 0) (fun _ U => va_P D al_cl [(q0, .inr (0, (fs.set 0 (.int 0))))] U.heap ∧ va_K D al_cl [] U ∧ va_D (va_A [(q0, .inr (0, fs))] sz) [(q0, .inr (0, (fs.set 0 (.int 0))))]) (va_A [(q0, .inr (0, fs))] sz)) 0 0 (va_A [(q0, .inr (0, fs))] sz) := by
  refine Met.ofW (cc := prog_14_method_251_code) (maxL := 2) (ret := (some .int)) (by decide) rfl ?_
  intro p e s m args below meth c s₁ B hml hv
  obtain ⟨rfl, hsz, hP, hK, hD0⟩ := hv
  subst hsz
  have hx := B.exec
  have hb := B.bytes
  have hr := B.returns
  have hts := atoms_spec (ws := lw_w ly_X12_count prog_14_method_251_code 2 (some .int)) B.pre
  have hin : ∀ w ∈ u_ws "TableTongueModel" al_TX12 160, w ∈ lw_w ly_X12_count prog_14_method_251_code 2 (some .int) := fun w hw => List.mem_cons_of_mem _ (lw_u (ci := 0) rfl w hw)
  have hown : s.vm.findClass "TableTongueModel" = some m.cls := findClass_of_methodNamed B.named
  have hD := hD0.self (sz := s.heap.size)
  generalize hAe : va_A [(q0, .inr (0, fs))] s.heap.size = A at hD ⊢
  have hA : ∀ q : Nat, s.heap.size ≤ q → A q := fun q h => by rw [← hAe]; exact Or.inr h
  have hS : va_S A s.heap s.heap [] := va_S.rf
  have hl := lv_entry ([.ref q0, .int a1]) (n := 2) (Nat.le_of_ble_eq_true rfl)
  rw [lg_entry_eq]
  generalize (lg_sl ([.ref q0, .int a1]) ++ List.replicate (2 - (lg_sl ([.ref q0, .int a1])).length) Slot.unset).toArray = ls at hl ⊢
  have hl : lv_has ls 2 [(0, .ref q0), (1, .int a1)] := hl
  refine lv_aload_n hx hb ld_X12_count_0 rfl (lv_at hl 0 rfl) ?_
  refine lv_iload_n hx hb ld_X12_count_1 rfl (lv_at hl 1 rfl) ?_
  refine lv_if_lt (tgt := 10) hx hb ld_X12_count_2 (by decide) (fun z => absurd z hok0) (fun _ => ?_)
  refine lv_iload_n hx hb ld_X12_count_5 rfl (lv_at hl 1 rfl) ?_
  refine lv_iconst (v := 5) hx hb ld_X12_count_6 (by decide) ?_
  refine lv_icmp_le (tgt := 14) hx hb ld_X12_count_7 (by decide) (fun _ => ?_) (fun z => absurd hok5 z)
  refine lv_iconst (v := 0) hx hb ld_X12_count_14 (by decide) ?_
  refine va_put (D := D) (ci := 0) (v := .int 0) (ty := .int) (C := "TableTongueModel") (T := al_TX12) (N := 160) hx hb hts hin (al_tyf 0) (al_Cls.2 0 _ _ _ rfl).2.1 (al_Cls.2 0 _ _ _ rfl).2.2 hown hK hP hD hS 0 rfl rfl 0 (by decide) (hts (.fieldLink "TableTongueModel" 335 "TableTongueModel" "thrown" "I") (List.mem_cons_of_mem _ (lw_in 3069 (by decide +kernel) (by decide +kernel)))) (fun _ h9 => h9) rfl (by decide +kernel) rfl rfl (by omega) ld_X12_count_15 (fun H locs hP hD hS => ?_)
  obtain ⟨fs26, efs26⟩ : ∃ z, z = fs.set 0 (.int 0) := ⟨_, rfl⟩
  have hP : va_P D al_cl [(q0, .inr (0, fs26))] H := by rw [efs26]; exact hP
  have hD : va_D A [(q0, .inr (0, fs26))] := by rw [efs26]; exact hD
  have hfs26_2 : fs26[2]? = some (.int zs) := by rw [efs26, List.getElem?_set_ne (by decide)]; exact hf2
  have hfs26_3 : fs26[3]? = some (.int 0) := by rw [efs26, List.getElem?_set_ne (by decide)]; exact hf3
  have hfs26_4 : fs26[4]? = some (.int fc) := by rw [efs26, List.getElem?_set_ne (by decide)]; exact hf4
  have hfs26_5 : fs26[5]? = some (.int fa) := by rw [efs26, List.getElem?_set_ne (by decide)]; exact hf5
  have hfs26_6 : fs26[6]? = some (.int fl) := by rw [efs26, List.getElem?_set_ne (by decide)]; exact hf6
  have hfs26_0 : fs26[0]? = some (.int 0) := by rw [efs26]; exact List.getElem?_set_self (by omega)
  have hlfs26 : fs26.length = 160 := by rw [efs26, List.length_set]; exact hl0
  refine lv_aload_n hx hb ld_X12_count_18 rfl (lv_at hl 0 rfl) ?_
  refine va_get (D := D) (ci := 0) (v := .int 0) (C := "TableTongueModel") (T := al_TX12) (N := 160) hx hb hts hin hown hK hP 0 rfl rfl 0 (by decide) (hts (.fieldLink "TableTongueModel" 335 "TableTongueModel" "thrown" "I") (List.mem_cons_of_mem _ (lw_in 3069 (by decide +kernel) (by decide +kernel)))) (fun _ h9 => h9) hfs26_0 ld_X12_count_19 ?_
  refine lv_if_gt (tgt := 32) hx hb ld_X12_count_22 (by decide) (fun z => absurd z (by decide)) (fun _ => ?_)
  refine lv_aload_n hx hb ld_X12_count_25 rfl (lv_at hl 0 rfl) ?_
  refine va_get (D := D) (ci := 0) (v := .int 0) (C := "TableTongueModel") (T := al_TX12) (N := 160) hx hb hts hin hown hK hP 0 rfl rfl 3 (by decide) (hts (.fieldLink "TableTongueModel" 509 "TableTongueModel" "compiled" "Z") (List.mem_cons_of_mem _ (lw_in 3072 (by decide +kernel) (by decide +kernel)))) (fun _ h9 => h9) hfs26_3 ld_X12_count_26 ?_
  refine lv_if_ne (tgt := 34) hx hb ld_X12_count_29 (by decide) (fun z => absurd z (by decide)) (fun _ => ?_)
  refine lv_iconst (v := 0) hx hb ld_X12_count_32 (by decide) ?_
  subst efs26
  exact W.iret (v := 0) hx hb hr (fun t ht hW => ⟨⟨0, (), rfl, rfl, by rw [ht]; exact hP, va_K.moved hW.alike hK, hD⟩, hS.F ht⟩) hS.2.2 ld_X12_count_33
set_option maxHeartbeats 4000000 in
set_option maxRecDepth 100000 in
theorem um_X12_count_bad (l : Launch) (D : va_G) (q0 sz : Nat) (fs : List Value) (hl0 : fs.length = 160) {tv zs fc fa fl : Int32} (hf0 : fs[0]? = some (.int tv)) (hf2 : fs[2]? = some (.int zs)) (hf3 : fs[3]? = some (.int 0)) (hf4 : fs[4]? = some (.int fc)) (hf5 : fs[5]? = some (.int fa)) (hf6 : fs[6]? = some (.int fl)) (a1 : Int32) (hbad : a1 < 0 ∨ ¬ a1 ≤ 5) : Met l ly_X12_count (lw_w ly_X12_count prog_14_method_251_code 2 (some .int)) ({ frames := 2, cells := 0, slots := 0, locals := 80 }) (lw_PM D q0 fs sz [.ref q0, .int a1]) (va_Qi (S := Unit) (fun r _ => r = 0) (fun _ U => va_P D al_cl [(q0, .inr (0, (fs.set 0 (.int 1))))] U.heap ∧ va_K D al_cl [] U ∧ va_D (va_A [(q0, .inr (0, fs))] sz) [(q0, .inr (0, (fs.set 0 (.int 1))))]) (va_A [(q0, .inr (0, fs))] sz)) 0 0 (va_A [(q0, .inr (0, fs))] sz) := by
  refine Met.ofW (cc := prog_14_method_251_code) (maxL := 2) (ret := (some .int)) (by decide) rfl ?_
  intro p e s m args below meth c s₁ B hml hv
  obtain ⟨rfl, hsz, hP, hK, hD0⟩ := hv
  subst hsz
  have hx := B.exec
  have hb := B.bytes
  have hr := B.returns
  have hts := atoms_spec (ws := lw_w ly_X12_count prog_14_method_251_code 2 (some .int)) B.pre
  have hin : ∀ w ∈ u_ws "TableTongueModel" al_TX12 160, w ∈ lw_w ly_X12_count prog_14_method_251_code 2 (some .int) := fun w hw => List.mem_cons_of_mem _ (lw_u (ci := 0) rfl w hw)
  have hown : s.vm.findClass "TableTongueModel" = some m.cls := findClass_of_methodNamed B.named
  have hD := hD0.self (sz := s.heap.size)
  generalize hAe : va_A [(q0, .inr (0, fs))] s.heap.size = A at hD ⊢
  have hA : ∀ q : Nat, s.heap.size ≤ q → A q := fun q h => by rw [← hAe]; exact Or.inr h
  have hS : va_S A s.heap s.heap [] := va_S.rf
  have hl := lv_entry ([.ref q0, .int a1]) (n := 2) (Nat.le_of_ble_eq_true rfl)
  rw [lg_entry_eq]
  generalize (lg_sl ([.ref q0, .int a1]) ++ List.replicate (2 - (lg_sl ([.ref q0, .int a1])).length) Slot.unset).toArray = ls at hl ⊢
  have hl : lv_has ls 2 [(0, .ref q0), (1, .int a1)] := hl
  refine lv_aload_n hx hb ld_X12_count_0 rfl (lv_at hl 0 rfl) ?_
  refine lv_iload_n hx hb ld_X12_count_1 rfl (lv_at hl 1 rfl) ?_
  refine lv_if_lt (tgt := 10) hx hb ld_X12_count_2 (by decide) (fun c_1 => ?_) (fun c_1 => ?_)
  · skip
    refine lv_iconst (v := 1) hx hb ld_X12_count_10 (by decide) ?_
    refine lv_goto (tgt := 15) hx hb ld_X12_count_11 (by decide) ?_
    refine va_put (D := D) (ci := 0) (v := .int 1) (ty := .int) (C := "TableTongueModel") (T := al_TX12) (N := 160) hx hb hts hin (al_tyf 0) (al_Cls.2 0 _ _ _ rfl).2.1 (al_Cls.2 0 _ _ _ rfl).2.2 hown hK hP hD hS 0 rfl rfl 0 (by decide) (hts (.fieldLink "TableTongueModel" 335 "TableTongueModel" "thrown" "I") (List.mem_cons_of_mem _ (lw_in 3069 (by decide +kernel) (by decide +kernel)))) (fun _ h9 => h9) rfl (by decide +kernel) rfl rfl (by omega) ld_X12_count_15 (fun H locs hP hD hS => ?_)
    obtain ⟨fs27, efs27⟩ : ∃ z, z = fs.set 0 (.int 1) := ⟨_, rfl⟩
    have hP : va_P D al_cl [(q0, .inr (0, fs27))] H := by rw [efs27]; exact hP
    have hD : va_D A [(q0, .inr (0, fs27))] := by rw [efs27]; exact hD
    have hfs27_2 : fs27[2]? = some (.int zs) := by rw [efs27, List.getElem?_set_ne (by decide)]; exact hf2
    have hfs27_3 : fs27[3]? = some (.int 0) := by rw [efs27, List.getElem?_set_ne (by decide)]; exact hf3
    have hfs27_4 : fs27[4]? = some (.int fc) := by rw [efs27, List.getElem?_set_ne (by decide)]; exact hf4
    have hfs27_5 : fs27[5]? = some (.int fa) := by rw [efs27, List.getElem?_set_ne (by decide)]; exact hf5
    have hfs27_6 : fs27[6]? = some (.int fl) := by rw [efs27, List.getElem?_set_ne (by decide)]; exact hf6
    have hfs27_0 : fs27[0]? = some (.int 1) := by rw [efs27]; exact List.getElem?_set_self (by omega)
    have hlfs27 : fs27.length = 160 := by rw [efs27, List.length_set]; exact hl0
    refine lv_aload_n hx hb ld_X12_count_18 rfl (lv_at hl 0 rfl) ?_
    refine va_get (D := D) (ci := 0) (v := .int 1) (C := "TableTongueModel") (T := al_TX12) (N := 160) hx hb hts hin hown hK hP 0 rfl rfl 0 (by decide) (hts (.fieldLink "TableTongueModel" 335 "TableTongueModel" "thrown" "I") (List.mem_cons_of_mem _ (lw_in 3069 (by decide +kernel) (by decide +kernel)))) (fun _ h9 => h9) hfs27_0 ld_X12_count_19 ?_
    refine lv_if_gt (tgt := 32) hx hb ld_X12_count_22 (by decide) (fun _ => ?_) (fun z => absurd z (by decide))
    refine lv_iconst (v := 0) hx hb ld_X12_count_32 (by decide) ?_
    subst efs27
    exact W.iret (v := 0) hx hb hr (fun t ht hW => ⟨⟨0, (), rfl, rfl, by rw [ht]; exact hP, va_K.moved hW.alike hK, hD⟩, hS.F ht⟩) hS.2.2 ld_X12_count_33
  · skip
    refine lv_iload_n hx hb ld_X12_count_5 rfl (lv_at hl 1 rfl) ?_
    refine lv_iconst (v := 5) hx hb ld_X12_count_6 (by decide) ?_
    refine lv_icmp_le (tgt := 14) hx hb ld_X12_count_7 (by decide) (fun z => absurd z (hbad.resolve_left c_1)) (fun _ => ?_)
    refine lv_iconst (v := 1) hx hb ld_X12_count_10 (by decide) ?_
    refine lv_goto (tgt := 15) hx hb ld_X12_count_11 (by decide) ?_
    refine va_put (D := D) (ci := 0) (v := .int 1) (ty := .int) (C := "TableTongueModel") (T := al_TX12) (N := 160) hx hb hts hin (al_tyf 0) (al_Cls.2 0 _ _ _ rfl).2.1 (al_Cls.2 0 _ _ _ rfl).2.2 hown hK hP hD hS 0 rfl rfl 0 (by decide) (hts (.fieldLink "TableTongueModel" 335 "TableTongueModel" "thrown" "I") (List.mem_cons_of_mem _ (lw_in 3069 (by decide +kernel) (by decide +kernel)))) (fun _ h9 => h9) rfl (by decide +kernel) rfl rfl (by omega) ld_X12_count_15 (fun H locs hP hD hS => ?_)
    obtain ⟨fs28, efs28⟩ : ∃ z, z = fs.set 0 (.int 1) := ⟨_, rfl⟩
    have hP : va_P D al_cl [(q0, .inr (0, fs28))] H := by rw [efs28]; exact hP
    have hD : va_D A [(q0, .inr (0, fs28))] := by rw [efs28]; exact hD
    have hfs28_2 : fs28[2]? = some (.int zs) := by rw [efs28, List.getElem?_set_ne (by decide)]; exact hf2
    have hfs28_3 : fs28[3]? = some (.int 0) := by rw [efs28, List.getElem?_set_ne (by decide)]; exact hf3
    have hfs28_4 : fs28[4]? = some (.int fc) := by rw [efs28, List.getElem?_set_ne (by decide)]; exact hf4
    have hfs28_5 : fs28[5]? = some (.int fa) := by rw [efs28, List.getElem?_set_ne (by decide)]; exact hf5
    have hfs28_6 : fs28[6]? = some (.int fl) := by rw [efs28, List.getElem?_set_ne (by decide)]; exact hf6
    have hfs28_0 : fs28[0]? = some (.int 1) := by rw [efs28]; exact List.getElem?_set_self (by omega)
    have hlfs28 : fs28.length = 160 := by rw [efs28, List.length_set]; exact hl0
    refine lv_aload_n hx hb ld_X12_count_18 rfl (lv_at hl 0 rfl) ?_
    refine va_get (D := D) (ci := 0) (v := .int 1) (C := "TableTongueModel") (T := al_TX12) (N := 160) hx hb hts hin hown hK hP 0 rfl rfl 0 (by decide) (hts (.fieldLink "TableTongueModel" 335 "TableTongueModel" "thrown" "I") (List.mem_cons_of_mem _ (lw_in 3069 (by decide +kernel) (by decide +kernel)))) (fun _ h9 => h9) hfs28_0 ld_X12_count_19 ?_
    refine lv_if_gt (tgt := 32) hx hb ld_X12_count_22 (by decide) (fun _ => ?_) (fun z => absurd z (by decide))
    refine lv_iconst (v := 0) hx hb ld_X12_count_32 (by decide) ?_
    subst efs28
    exact W.iret (v := 0) hx hb hr (fun t ht hW => ⟨⟨0, (), rfl, rfl, by rw [ht]; exact hP, va_K.moved hW.alike hK, hD⟩, hS.F ht⟩) hS.2.2 ld_X12_count_33
