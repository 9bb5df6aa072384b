/-! ===== 31: wipe, forget, feed (by wip/p1/walk.py) ===== -/
/-- the class's object alone, to be written -/
def lw_PY (D : va_G) (q0 : Nat) (fs : List Value) (sz : Nat) (vs : List Value) : Array Value → State → Prop := va_Pc vs (fun U => U.heap.size = sz ∧ va_P D al_cl [(q0, .inr (3, fs))] U.heap ∧ va_K D al_cl [] U ∧ va_D (fun _ => True) [(q0, .inr (3, fs))])
theorem lw_PY.blind {D : va_G} {q0 : Nat} {fs : List Value} {sz : Nat} {vs : List Value} : FrameBlind (lw_PY D q0 fs sz vs) := by
  intro a U g mk h
  obtain ⟨h0, h1, h2, h3, h4⟩ := h
  exact ⟨h0, h1, h2, va_K.moved (u := U) (U := U.calling g mk a) (Vm.Alike.refl U.vm) h3, h4⟩
/-- an object and its text -/
def lw_PT (D : va_G) (ci q0 q1 : Nat) (ty : FieldType) (cA : ClassId) (f : Nat → Int32) (fs : List Value) (sz : Nat) (vs : List Value) : Array Value → State → Prop := va_Pc vs (fun U => U.heap.size = sz ∧ va_P D al_cl [(q0, .inr (ci, fs)), (q1, .inl (cA, 6000, .inl f))] U.heap ∧ va_K D al_cl [(cA, ty)] U ∧ va_D (fun _ => True) [(q0, .inr (ci, fs)), (q1, .inl (cA, 6000, .inl f))])
theorem lw_PT.blind {D : va_G} {ci q0 q1 : Nat} {ty : FieldType} {cA : ClassId} {f : Nat → Int32} {fs : List Value} {sz : Nat} {vs : List Value} : FrameBlind (lw_PT D ci q0 q1 ty cA f fs sz vs) := by
  intro a U g mk h
  obtain ⟨h0, h1, h2, h3, h4⟩ := h
  exact ⟨h0, h1, h2, va_K.moved (u := U) (U := U.calling g mk a) (Vm.Alike.refl U.vm) h3, h4⟩
def ly_X11_forget : MethodName := ⟨"TableTongue", "forget", "()V"⟩
def ly_X11_wipe : MethodName := ⟨"TableTongue", "wipe", "()I"⟩
theorem ld_X11_forget_0 : decode prog_1_method_18_code 0 = .ok (.aload_n 0, 1) := by decide +kernel
theorem ld_X11_forget_1 : decode prog_1_method_18_code 1 = .ok (.iconst 0, 1) := by decide +kernel
theorem ld_X11_forget_2 : decode prog_1_method_18_code 2 = .ok (.putfield 99, 3) := by decide +kernel
theorem ld_X11_forget_5 : decode prog_1_method_18_code 5 = .ok (.return_, 1) := by decide +kernel
theorem ld_X11_wipe_0 : decode prog_1_method_3_code 0 = .ok (.aload_n 0, 1) := by decide +kernel
theorem ld_X11_wipe_1 : decode prog_1_method_3_code 1 = .ok (.getfield 80, 3) := by decide +kernel
theorem ld_X11_wipe_4 : decode prog_1_method_3_code 4 = .ok (.istore_n 1, 1) := by decide +kernel
theorem ld_X11_wipe_5 : decode prog_1_method_3_code 5 = .ok (.aload_n 0, 1) := by decide +kernel
theorem ld_X11_wipe_6 : decode prog_1_method_3_code 6 = .ok (.iconst 0, 1) := by decide +kernel
theorem ld_X11_wipe_7 : decode prog_1_method_3_code 7 = .ok (.putfield 80, 3) := by decide +kernel
theorem ld_X11_wipe_10 : decode prog_1_method_3_code 10 = .ok (.aload_n 0, 1) := by decide +kernel
theorem ld_X11_wipe_11 : decode prog_1_method_3_code 11 = .ok (.invokevirtual 86, 3) := by decide +kernel
theorem ld_X11_wipe_14 : decode prog_1_method_3_code 14 = .ok (.iload_n 1, 1) := by decide +kernel
theorem ld_X11_wipe_15 : decode prog_1_method_3_code 15 = .ok (.ireturn, 1) := by decide +kernel
theorem ld_X11_feed_11 : decode prog_1_method_2_code 11 = .ok (.aload_n 0, 1) := by decide +kernel
theorem ld_X11_feed_12 : decode prog_1_method_2_code 12 = .ok (.getfield 80, 3) := by decide +kernel
theorem ld_X11_feed_15 : decode prog_1_method_2_code 15 = .ok (.iload_n 1, 1) := by decide +kernel
theorem ld_X11_feed_16 : decode prog_1_method_2_code 16 = .ok (.iadd, 1) := by decide +kernel
theorem ld_X11_feed_17 : decode prog_1_method_2_code 17 = .ok (.sipush 6000, 3) := by decide +kernel
theorem ld_X11_feed_20 : decode prog_1_method_2_code 20 = .ok (.if_icmp .le 11, 3) := by decide +kernel
theorem ld_X11_feed_31 : decode prog_1_method_2_code 31 = .ok (.iconst 0, 1) := by decide +kernel
theorem ld_X11_feed_32 : decode prog_1_method_2_code 32 = .ok (.istore 4, 2) := by decide +kernel
theorem ld_X11_feed_34 : decode prog_1_method_2_code 34 = .ok (.iload 4, 2) := by decide +kernel
theorem ld_X11_feed_36 : decode prog_1_method_2_code 36 = .ok (.iload_n 1, 1) := by decide +kernel
theorem ld_X11_feed_37 : decode prog_1_method_2_code 37 = .ok (.if_icmp .ge 30, 3) := by decide +kernel
theorem ld_X11_feed_67 : decode prog_1_method_2_code 67 = .ok (.aload_n 0, 1) := by decide +kernel
theorem ld_X11_feed_68 : decode prog_1_method_2_code 68 = .ok (.dup, 1) := by decide +kernel
theorem ld_X11_feed_69 : decode prog_1_method_2_code 69 = .ok (.getfield 80, 3) := by decide +kernel
theorem ld_X11_feed_72 : decode prog_1_method_2_code 72 = .ok (.iload_n 1, 1) := by decide +kernel
theorem ld_X11_feed_73 : decode prog_1_method_2_code 73 = .ok (.iadd, 1) := by decide +kernel
theorem ld_X11_feed_74 : decode prog_1_method_2_code 74 = .ok (.putfield 80, 3) := by decide +kernel
theorem ld_X11_feed_77 : decode prog_1_method_2_code 77 = .ok (.aload_n 0, 1) := by decide +kernel
theorem ld_X11_feed_78 : decode prog_1_method_2_code 78 = .ok (.invokevirtual 86, 3) := by decide +kernel
theorem ld_X11_feed_81 : decode prog_1_method_2_code 81 = .ok (.aload_n 0, 1) := by decide +kernel
theorem ld_X11_feed_82 : decode prog_1_method_2_code 82 = .ok (.getfield 80, 3) := by decide +kernel
theorem ld_X11_feed_85 : decode prog_1_method_2_code 85 = .ok (.ireturn, 1) := by decide +kernel
theorem ld_X11_feed_40 : decode prog_1_method_2_code 40 = .ok (.aload_n 0, 1) := by decide +kernel
theorem ld_X11_feed_41 : decode prog_1_method_2_code 41 = .ok (.getfield 9, 3) := by decide +kernel
theorem ld_X11_feed_44 : decode prog_1_method_2_code 44 = .ok (.aload_n 0, 1) := by decide +kernel
theorem ld_X11_feed_45 : decode prog_1_method_2_code 45 = .ok (.getfield 80, 3) := by decide +kernel
theorem ld_X11_feed_48 : decode prog_1_method_2_code 48 = .ok (.iload 4, 2) := by decide +kernel
theorem ld_X11_feed_50 : decode prog_1_method_2_code 50 = .ok (.iadd, 1) := by decide +kernel
theorem ld_X11_feed_51 : decode prog_1_method_2_code 51 = .ok (.lload_n 2, 1) := by decide +kernel
theorem ld_X11_feed_52 : decode prog_1_method_2_code 52 = .ok (.bipush 8, 2) := by decide +kernel
theorem ld_X11_feed_54 : decode prog_1_method_2_code 54 = .ok (.iload 4, 2) := by decide +kernel
theorem ld_X11_feed_56 : decode prog_1_method_2_code 56 = .ok (.imul, 1) := by decide +kernel
theorem ld_X11_feed_57 : decode prog_1_method_2_code 57 = .ok (.lshr, 1) := by decide +kernel
theorem ld_X11_feed_58 : decode prog_1_method_2_code 58 = .ok (.l2i, 1) := by decide +kernel
theorem ld_X11_feed_59 : decode prog_1_method_2_code 59 = .ok (.i2b, 1) := by decide +kernel
theorem ld_X11_feed_60 : decode prog_1_method_2_code 60 = .ok (.bastore, 1) := by decide +kernel
theorem ld_X11_feed_61 : decode prog_1_method_2_code 61 = .ok (.iinc 4 1, 3) := by decide +kernel
theorem ld_X11_feed_64 : decode prog_1_method_2_code 64 = .ok (.goto (-30), 3) := by decide +kernel
theorem ld_X12_feed_12 : decode prog_14_method_11_code 12 = .ok (.aload_n 0, 1) := by decide +kernel
theorem ld_X12_feed_13 : decode prog_14_method_11_code 13 = .ok (.getfield 506, 3) := by decide +kernel
theorem ld_X12_feed_16 : decode prog_14_method_11_code 16 = .ok (.iload_n 1, 1) := by decide +kernel
theorem ld_X12_feed_17 : decode prog_14_method_11_code 17 = .ok (.iadd, 1) := by decide +kernel
theorem ld_X12_feed_18 : decode prog_14_method_11_code 18 = .ok (.sipush 6000, 3) := by decide +kernel
theorem ld_X12_feed_21 : decode prog_14_method_11_code 21 = .ok (.if_icmp .le 7, 3) := by decide +kernel
theorem ld_X12_feed_28 : decode prog_14_method_11_code 28 = .ok (.iconst 0, 1) := by decide +kernel
theorem ld_X12_feed_41 : decode prog_14_method_11_code 41 = .ok (.iconst 0, 1) := by decide +kernel
theorem ld_X12_feed_42 : decode prog_14_method_11_code 42 = .ok (.istore 4, 2) := by decide +kernel
theorem ld_X12_feed_44 : decode prog_14_method_11_code 44 = .ok (.iload 4, 2) := by decide +kernel
theorem ld_X12_feed_46 : decode prog_14_method_11_code 46 = .ok (.iload_n 1, 1) := by decide +kernel
theorem ld_X12_feed_47 : decode prog_14_method_11_code 47 = .ok (.if_icmp .ge 40, 3) := by decide +kernel
theorem ld_X12_feed_87 : decode prog_14_method_11_code 87 = .ok (.aload_n 0, 1) := by decide +kernel
theorem ld_X12_feed_88 : decode prog_14_method_11_code 88 = .ok (.iconst 0, 1) := by decide +kernel
theorem ld_X12_feed_89 : decode prog_14_method_11_code 89 = .ok (.putfield 509, 3) := by decide +kernel
theorem ld_X12_feed_92 : decode prog_14_method_11_code 92 = .ok (.aload_n 0, 1) := by decide +kernel
theorem ld_X12_feed_93 : decode prog_14_method_11_code 93 = .ok (.getfield 506, 3) := by decide +kernel
theorem ld_X12_feed_96 : decode prog_14_method_11_code 96 = .ok (.ireturn, 1) := by decide +kernel
theorem ld_X12_feed_50 : decode prog_14_method_11_code 50 = .ok (.aload_n 0, 1) := by decide +kernel
theorem ld_X12_feed_51 : decode prog_14_method_11_code 51 = .ok (.getfield 7, 3) := by decide +kernel
theorem ld_X12_feed_54 : decode prog_14_method_11_code 54 = .ok (.aload_n 0, 1) := by decide +kernel
theorem ld_X12_feed_55 : decode prog_14_method_11_code 55 = .ok (.getfield 506, 3) := by decide +kernel
theorem ld_X12_feed_58 : decode prog_14_method_11_code 58 = .ok (.lload_n 2, 1) := by decide +kernel
theorem ld_X12_feed_59 : decode prog_14_method_11_code 59 = .ok (.bipush 8, 2) := by decide +kernel
theorem ld_X12_feed_61 : decode prog_14_method_11_code 61 = .ok (.iload 4, 2) := by decide +kernel
theorem ld_X12_feed_63 : decode prog_14_method_11_code 63 = .ok (.imul, 1) := by decide +kernel
theorem ld_X12_feed_64 : decode prog_14_method_11_code 64 = .ok (.lushr, 1) := by decide +kernel
theorem ld_X12_feed_65 : decode prog_14_method_11_code 65 = .ok (.l2i, 1) := by decide +kernel
theorem ld_X12_feed_66 : decode prog_14_method_11_code 66 = .ok (.sipush 255, 3) := by decide +kernel
theorem ld_X12_feed_69 : decode prog_14_method_11_code 69 = .ok (.iand, 1) := by decide +kernel
theorem ld_X12_feed_70 : decode prog_14_method_11_code 70 = .ok (.iastore, 1) := by decide +kernel
theorem ld_X12_feed_71 : decode prog_14_method_11_code 71 = .ok (.aload_n 0, 1) := by decide +kernel
theorem ld_X12_feed_72 : decode prog_14_method_11_code 72 = .ok (.dup, 1) := by decide +kernel
theorem ld_X12_feed_73 : decode prog_14_method_11_code 73 = .ok (.getfield 506, 3) := by decide +kernel
theorem ld_X12_feed_76 : decode prog_14_method_11_code 76 = .ok (.iconst 1, 1) := by decide +kernel
theorem ld_X12_feed_77 : decode prog_14_method_11_code 77 = .ok (.iadd, 1) := by decide +kernel
theorem ld_X12_feed_78 : decode prog_14_method_11_code 78 = .ok (.putfield 506, 3) := by decide +kernel
theorem ld_X12_feed_81 : decode prog_14_method_11_code 81 = .ok (.iinc 4 1, 3) := by decide +kernel
theorem ld_X12_feed_84 : decode prog_14_method_11_code 84 = .ok (.goto (-40), 3) := by decide +kernel
set_option maxHeartbeats 4000000 in
set_option maxRecDepth 100000 in
theorem x_X11_forget (l : Launch) (D : va_G) (q0 sz : Nat) (fs : List Value) (hl0 : fs.length = 12) : Met l ly_X11_forget (lw_w ly_X11_forget prog_1_method_18_code 1 none) ({ frames := 1, cells := 0, slots := 0, locals := 32 }) (lw_PY D q0 fs sz [.ref q0]) (va_Qv (S := Unit) (fun _ => True) (fun _ U => va_P D al_cl [(q0, .inr (3, fs.set 9 (.int 0)))] U.heap ∧ va_K D al_cl [] U ∧ va_D (va_A [(q0, .inr (3, fs))] sz) [(q0, .inr (3, fs.set 9 (.int 0)))]) (va_A [(q0, .inr (3, fs))] sz)) 0 0 (va_A [(q0, .inr (3, fs))] sz) := by
  refine Met.ofW (cc := prog_1_method_18_code) (maxL := 1) (ret := none) (by decide) rfl ?_
  intro p e s m args below meth c s₁ B hml hv
  obtain ⟨rfl, hsz, hP, hK, hD0⟩ := hv
  subst hsz
  have hx := B.exec
  have hb := B.bytes
  have hr := B.returns
  have hts := atoms_spec (ws := lw_w ly_X11_forget prog_1_method_18_code 1 none) B.pre
  have hin : ∀ w ∈ u_ws "TableTongue" al_TX11 12, w ∈ lw_w ly_X11_forget prog_1_method_18_code 1 none := fun w hw => List.mem_cons_of_mem _ (lw_u (ci := 3) rfl w hw)
  have hown : s.vm.findClass "TableTongue" = some m.cls := findClass_of_methodNamed B.named
  have hD := hD0.self (sz := s.heap.size)
  generalize hAe : va_A [(q0, .inr (3, fs))] s.heap.size = A at hD ⊢
  have hA : ∀ q : Nat, s.heap.size ≤ q → A q := fun q h => by rw [← hAe]; exact Or.inr h
  have hS : va_S A s.heap s.heap [] := va_S.rf
  have hl := lv_entry ([.ref q0]) (n := 1) (Nat.le_of_ble_eq_true rfl)
  rw [lg_entry_eq]
  generalize (lg_sl ([.ref q0]) ++ List.replicate (1 - (lg_sl ([.ref q0])).length) Slot.unset).toArray = ls at hl ⊢
  have hl : lv_has ls 1 [(0, .ref q0)] := hl
  refine lv_aload_n hx hb ld_X11_forget_0 rfl (lv_at hl 0 rfl) ?_
  refine lv_iconst (v := 0) hx hb ld_X11_forget_1 (by decide) ?_
  refine va_put (D := D) (ci := 3) (v := .int 0) (ty := .boolean) (C := "TableTongue") (T := al_TX11) (N := 12) hx hb hts hin (al_tyf 3) (al_Cls.2 3 _ _ _ rfl).2.1 (al_Cls.2 3 _ _ _ rfl).2.2 hown hK hP hD hS 0 rfl rfl 9 (by decide) (hts (.fieldLink "TableTongue" 99 "TableTongue" "compiled" "Z") (List.mem_cons_of_mem _ (lw_in 1586 (by decide +kernel) (by decide +kernel)))) (fun _ h9 => h9) rfl (by decide +kernel) rfl rfl (by omega) ld_X11_forget_2 (fun H locs hP hD hS => ?_)
  obtain ⟨fs26, efs26⟩ : ∃ z, z = fs.set 9 (.int 0) := ⟨_, rfl⟩
  have hP : va_P D al_cl [(q0, .inr (3, fs26))] H := by rw [efs26]; exact hP
  have hD : va_D A [(q0, .inr (3, fs26))] := by rw [efs26]; exact hD
  have hfs26_9 : fs26[9]? = some (.int 0) := by rw [efs26]; exact List.getElem?_set_self (by omega)
  have hlfs26 : fs26.length = 12 := by rw [efs26, List.length_set]; exact hl0
  subst efs26
  exact W.vret hx hb hr (fun t ht hW => ⟨⟨(), rfl, trivial, by rw [ht]; exact hP, va_K.moved hW.alike hK, hD⟩, hS.F ht⟩) hS.2.2 ld_X11_forget_5
set_option maxHeartbeats 4000000 in
set_option maxRecDepth 100000 in
theorem x_X11_wipe (l : Launch) (D : va_G) (q0 sz : Nat) (fs : List Value) (hl0 : fs.length = 12) (hf8 : fs[8]? = some (.int 0)) : Met l ly_X11_wipe (lw_w ly_X11_wipe prog_1_method_3_code 2 (some .int)) ({ frames := 3, cells := 0, slots := 0, locals := 90 }) (lw_PY D q0 fs sz [.ref q0]) (va_Qi (S := Unit) (fun r _ => r = 0) (fun _ _ => True) (va_A [(q0, .inr (3, fs))] sz)) 0 0 (va_A [(q0, .inr (3, fs))] sz) := by
  refine Met.ofW (cc := prog_1_method_3_code) (maxL := 2) (ret := (some .int)) (by decide) rfl ?_
  intro p e s m args below meth c s₁ B hml hv
  obtain ⟨rfl, hsz, hP, hK, hD0⟩ := hv
  subst hsz
  have hx := B.exec
  have hb := B.bytes
  have hr := B.returns
  have hts := atoms_spec (ws := lw_w ly_X11_wipe prog_1_method_3_code 2 (some .int)) B.pre
  have hin : ∀ w ∈ u_ws "TableTongue" al_TX11 12, w ∈ lw_w ly_X11_wipe prog_1_method_3_code 2 (some .int) := fun w hw => List.mem_cons_of_mem _ (lw_u (ci := 3) rfl w hw)
  have hown : s.vm.findClass "TableTongue" = some m.cls := findClass_of_methodNamed B.named
  have hD := hD0.self (sz := s.heap.size)
  generalize hAe : va_A [(q0, .inr (3, fs))] s.heap.size = A at hD ⊢
  have hA : ∀ q : Nat, s.heap.size ≤ q → A q := fun q h => by rw [← hAe]; exact Or.inr h
  have hS : va_S A s.heap s.heap [] := va_S.rf
  have hl := lv_entry ([.ref q0]) (n := 2) (Nat.le_of_ble_eq_true rfl)
  rw [lg_entry_eq]
  generalize (lg_sl ([.ref q0]) ++ List.replicate (2 - (lg_sl ([.ref q0])).length) Slot.unset).toArray = ls at hl ⊢
  have hl : lv_has ls 2 [(0, .ref q0)] := hl
  refine lv_aload_n hx hb ld_X11_wipe_0 rfl (lv_at hl 0 rfl) ?_
  refine va_get (D := D) (ci := 3) (v := .int 0) (C := "TableTongue") (T := al_TX11) (N := 12) hx hb hts hin hown hK hP 0 rfl rfl 8 (by decide) (hts (.fieldLink "TableTongue" 80 "TableTongue" "size" "I") (List.mem_cons_of_mem _ (lw_in 1585 (by decide +kernel) (by decide +kernel)))) (fun _ h9 => h9) hf8 ld_X11_wipe_1 ?_
  refine lv_istore_n (lv' := [(1, .int 0), (0, .ref q0)]) hx hb ld_X11_wipe_4 rfl hl (by decide) rfl (fun ls hl => ?_)
  refine lv_aload_n hx hb ld_X11_wipe_5 rfl (lv_at hl 1 rfl) ?_
  refine lv_iconst (v := 0) hx hb ld_X11_wipe_6 (by decide) ?_
  refine va_put (D := D) (ci := 3) (v := .int 0) (ty := .int) (C := "TableTongue") (T := al_TX11) (N := 12) hx hb hts hin (al_tyf 3) (al_Cls.2 3 _ _ _ rfl).2.1 (al_Cls.2 3 _ _ _ rfl).2.2 hown hK hP hD hS 0 rfl rfl 8 (by decide) (hts (.fieldLink "TableTongue" 80 "TableTongue" "size" "I") (List.mem_cons_of_mem _ (lw_in 1585 (by decide +kernel) (by decide +kernel)))) (fun _ h9 => h9) rfl (by decide +kernel) rfl rfl (by omega) ld_X11_wipe_7 (fun H locs hP hD hS => ?_)
  obtain ⟨fs27, efs27⟩ : ∃ z, z = fs.set 8 (.int 0) := ⟨_, rfl⟩
  have hP : va_P D al_cl [(q0, .inr (3, fs27))] H := by rw [efs27]; exact hP
  have hD : va_D A [(q0, .inr (3, fs27))] := by rw [efs27]; exact hD
  have hfs27_8 : fs27[8]? = some (.int 0) := by rw [efs27]; exact List.getElem?_set_self (by omega)
  have hlfs27 : fs27.length = 12 := by rw [efs27, List.length_set]; exact hl0
  refine lv_aload_n hx hb ld_X11_wipe_10 rfl (lv_at hl 1 rfl) ?_
  have hPc := hP.sub (ws' := [(q0, .inr (3, fs27))]) [0] rfl
  have hDc := hD.sub (ws' := [(q0, .inr (3, fs27))]) [0] (by decide) rfl
  have hKc := hK.sub (tys' := []) [] rfl
  have hFc := va_free (wc := [(q0, .inr (3, fs27))]) hD hS hA [0] rfl
  refine va_callv (va_runV (As := []) (rest := []) (C := "TableTongue") (Ts := lw_w ly_X11_wipe prog_1_method_3_code 2 (some .int)) ⟨hx, hb, hml, hown, hts⟩ (x_X11_forget l D q0 H.size fs27 hlfs27) ⟨callB_of 0 hts (lw_GoodIn (List.mem_cons_of_mem _ (lw_in 1621 (by decide +kernel) (by decide +kernel))) (by decide +kernel)) rfl rfl rfl (hts _ (List.mem_cons_of_mem _ (lw_in 394 (by decide +kernel) (by decide +kernel)))) (hts _ (List.mem_cons_of_mem _ (lw_in 1618 (by decide +kernel) (by decide +kernel)))) ⟨by decide, by decide, by decide +kernel⟩ ⟨Nat.le_of_ble_eq_true rfl, Nat.le_of_ble_eq_true rfl⟩, hts _ (List.mem_cons_of_mem _ (lw_in 1620 (by decide +kernel) (by decide +kernel))), hts _ (List.mem_cons_of_mem _ (lw_in 7 (by decide +kernel) (by decide +kernel)))⟩ ⟨lw_PY.blind, va_recv hKc hPc (ci := 3) (q0 := 0) rfl rfl, fun U hU hW => ⟨rfl, by rw [hU], by rw [hU]; exact hPc, va_K.moved hW.alike hKc, hDc.weaken (fun _ _ _ _ => trivial)⟩⟩ rfl rfl hl.1 rfl (lv_room (Nat.le_of_ble_eq_true rfl)) ld_X11_wipe_11 ⟨Nat.le_of_ble_eq_true rfl, Nat.le_of_ble_eq_true rfl⟩) hS (fun q _ h => hFc q h) hFc (fun u t H1 locs ht hvm hw hB hz1 hk1 hS => ?_)
  obtain ⟨hP, -, -⟩ := hB
  rw [ht] at hP
  obtain ⟨fsF, efsF⟩ : ∃ z, z = fs27.set 9 (Value.int 0) := ⟨_, rfl⟩
  rw [← efsF] at hP
  have hF_8 : fsF[8]? = some (.int 0) := by rw [efsF, List.getElem?_set_ne (by decide)]; exact hfs27_8
  refine lv_iload_n hx hb ld_X11_wipe_14 rfl (lv_at hl 0 rfl) ?_
  exact W.iret (v := 0) hx hb hr (fun t ht hW => ⟨⟨0, (), rfl, rfl, trivial⟩, hS.F ht⟩) hS.2.2 ld_X11_wipe_15
set_option maxHeartbeats 4000000 in
set_option maxRecDepth 100000 in
theorem x_X11_feed_ok (l : Launch) (D : va_G) (q0 q1 sz : Nat) (cA : ClassId) (f : Nat → Int32) (fs : List Value) (hl0 : fs.length = 12) (hfT : fs[0]? = some (.ref q1)) (hf8 : fs[8]? = some (.int 0)) (N : Nat) (hN1 : 1 ≤ N) (hN8 : N ≤ 8) (a2 : Int64) : Met l ly_X11_feed (lw_w ly_X11_feed prog_1_method_2_code 5 (some .int)) ({ frames := 3, cells := 0, slots := 0, locals := 90 }) (lw_PT D 3 q0 q1 .byte cA f fs sz [.ref q0, .int (nI N), .long a2]) (va_Qi (S := Unit) (fun r _ => r = nI N) (fun _ _ => True) (va_A [(q0, .inr (3, fs)), (q1, .inl (cA, 6000, .inl f))] sz)) 0 0 (va_A [(q0, .inr (3, fs)), (q1, .inl (cA, 6000, .inl f))] sz) := by
  refine Met.ofW (cc := prog_1_method_2_code) (maxL := 5) (ret := (some .int)) (by decide) rfl ?_
  intro p e s m args below meth c s₁ B hml hv
  obtain ⟨rfl, hsz, hP, hK, hD0⟩ := hv
  subst hsz
  have hx := B.exec
  have hb := B.bytes
  have hr := B.returns
  have hts := atoms_spec (ws := lw_w ly_X11_feed prog_1_method_2_code 5 (some .int)) B.pre
  have hin : ∀ w ∈ u_ws "TableTongue" al_TX11 12, w ∈ lw_w ly_X11_feed prog_1_method_2_code 5 (some .int) := fun w hw => List.mem_cons_of_mem _ (lw_u (ci := 3) rfl w hw)
  have hown : s.vm.findClass "TableTongue" = some m.cls := findClass_of_methodNamed B.named
  have hD := hD0.self (sz := s.heap.size)
  generalize hAe : va_A [(q0, .inr (3, fs)), (q1, .inl (cA, 6000, .inl f))] s.heap.size = A at hD ⊢
  have hA : ∀ q : Nat, s.heap.size ≤ q → A q := fun q h => by rw [← hAe]; exact Or.inr h
  have hS : va_S A s.heap s.heap [] := va_S.rf
  have hl := lv_entry ([.ref q0, .int (nI N), .long a2]) (n := 5) (Nat.le_of_ble_eq_true rfl)
  rw [lg_entry_eq]
  generalize (lg_sl ([.ref q0, .int (nI N), .long a2]) ++ List.replicate (5 - (lg_sl ([.ref q0, .int (nI N), .long a2])).length) Slot.unset).toArray = ls at hl ⊢
  have hl : lv_has ls 5 [(0, .ref q0), (1, .int (nI N)), (2, .long a2)] := hl
  refine lv_iload_n hx hb ld_X11_feed_0 rfl (lv_at hl 1 rfl) ?_
  refine lv_iconst (v := 1) hx hb ld_X11_feed_1 (by decide) ?_
  refine lv_icmp_lt (tgt := 23) hx hb ld_X11_feed_2 (by decide) (fun z => absurd z (show ¬ nI N < 1 by rw [show (1 : Int32) = nI 1 from rfl, nI_ltI (by omega) (by omega)]; omega)) (fun _ => ?_)
  refine lv_iload_n hx hb ld_X11_feed_5 rfl (lv_at hl 1 rfl) ?_
  refine lv_bipush (v := 8) hx hb ld_X11_feed_6 (by decide) ?_
  refine lv_icmp_gt (tgt := 23) hx hb ld_X11_feed_8 (by decide) (fun z => absurd z (show ¬ (8 : Int32) < nI N by rw [show (8 : Int32) = nI 8 from rfl, nI_ltI (by omega) (by omega)]; omega)) (fun _ => ?_)
  refine lv_aload_n hx hb ld_X11_feed_11 rfl (lv_at hl 0 rfl) ?_
  refine va_get (D := D) (ci := 3) (v := .int 0) (C := "TableTongue") (T := al_TX11) (N := 12) hx hb hts hin hown hK hP 0 rfl rfl 8 (by decide) (hts (.fieldLink "TableTongue" 80 "TableTongue" "size" "I") (List.mem_cons_of_mem _ (lw_in 1585 (by decide +kernel) (by decide +kernel)))) (fun _ h9 => h9) hf8 ld_X11_feed_12 ?_
  refine lv_iload_n hx hb ld_X11_feed_15 rfl (lv_at hl 1 rfl) ?_
  refine lv_iadd hx hb ld_X11_feed_16 ?_
  refine lv_topi (fun v_1 ev_1 => ?_)
  refine lv_sipush (v := 6000) hx hb ld_X11_feed_17 (by decide) ?_
  refine lv_icmp_le (tgt := 31) hx hb ld_X11_feed_20 (by decide) (fun _ => ?_) (fun z => absurd (show v_1 ≤ 6000 by rw [ev_1, Int32.zero_add, show (6000 : Int32) = nI 6000 from rfl, nI_leI (by omega) (by omega)]; omega) z)
  refine lv_iconst (v := 0) hx hb ld_X11_feed_31 (by decide) ?_
  refine lv_istore (lv' := [(4, .int 0), (0, .ref q0), (1, .int (nI N)), (2, .long a2)]) hx hb ld_X11_feed_32 hl (by decide) rfl (fun ls hl => ?_)
  have hl : lv_has ls 5 [(4, .int (nI 0)), (0, .ref q0), (1, .int (nI N)), (2, .long a2)] := hl
  have key : ∀ (n i : Nat), i + n = N → ∀ (f : Nat → Int32) (H : Heap) (locs : List Loc) (ls : Array Slot) , va_P D al_cl [(q0, .inr (3, fs)), (q1, .inl (cA, 6000, .inl f))] H → va_D A [(q0, .inr (3, fs)), (q1, .inl (cA, 6000, .inl f))] → va_S A s.heap H locs → lv_has ls 5 [(4, .int (nI i)), (0, .ref q0), (1, .int (nI N)), (2, .long a2)] → W p l e (headSpec (lw_w ly_X11_feed prog_1_method_2_code 5 (some .int)) ({ frames := 3, cells := 0, slots := 0, locals := 90 })).room s m [.ref q0, .int (nI N), .long a2].toArray below meth c H locs 0 0 (MQ below (va_Qi (S := Unit) (fun r _ => r = nI N) (fun _ _ => True) A) [.ref q0, .int (nI N), .long a2].toArray s 0 0 A) (F0 m 34 ls []) := by
    intro n
    induction n with
    | zero =>
      intro i hi f H locs ls hP hD hS hl
      obtain rfl : N = i := by omega
      refine lv_iload hx hb ld_X11_feed_34 (lv_at hl 0 rfl) ?_
      refine lv_iload_n hx hb ld_X11_feed_36 rfl (lv_at hl 2 rfl) ?_
      refine lv_icmp_ge (tgt := 67) hx hb ld_X11_feed_37 (by decide) (fun _ => ?_) (fun z => absurd (show nI N ≤ nI N from Int32.le_refl _) z)
      refine lv_aload_n hx hb ld_X11_feed_67 rfl (lv_at hl 1 rfl) ?_
      refine lv_dup hx hb ld_X11_feed_68 rfl ?_
      refine va_get (D := D) (ci := 3) (v := .int 0) (C := "TableTongue") (T := al_TX11) (N := 12) hx hb hts hin hown hK hP 0 rfl rfl 8 (by decide) (hts (.fieldLink "TableTongue" 80 "TableTongue" "size" "I") (List.mem_cons_of_mem _ (lw_in 1585 (by decide +kernel) (by decide +kernel)))) (fun _ h9 => h9) hf8 ld_X11_feed_69 ?_
      refine lv_iload_n hx hb ld_X11_feed_72 rfl (lv_at hl 2 rfl) ?_
      refine lv_iadd hx hb ld_X11_feed_73 ?_
      refine lv_topi (fun v_11 ev_11 => ?_)
      refine va_put (D := D) (ci := 3) (v := .int v_11) (ty := .int) (C := "TableTongue") (T := al_TX11) (N := 12) hx hb hts hin (al_tyf 3) (al_Cls.2 3 _ _ _ rfl).2.1 (al_Cls.2 3 _ _ _ rfl).2.2 hown hK hP hD hS 0 rfl rfl 8 (by decide) (hts (.fieldLink "TableTongue" 80 "TableTongue" "size" "I") (List.mem_cons_of_mem _ (lw_in 1585 (by decide +kernel) (by decide +kernel)))) (fun _ h9 => h9) rfl (by decide +kernel) rfl rfl (by omega) ld_X11_feed_74 (fun H locs hP hD hS => ?_)
      obtain ⟨fs28, efs28⟩ : ∃ z, z = fs.set 8 (.int v_11) := ⟨_, rfl⟩
      have hP : va_P D al_cl [(q0, .inr (3, fs28)), (q1, .inl (cA, 6000, .inl f))] H := by rw [efs28]; exact hP
      have hD : va_D A [(q0, .inr (3, fs28)), (q1, .inl (cA, 6000, .inl f))] := by rw [efs28]; exact hD
      have hfs28_0 : fs28[0]? = some (.ref q1) := by rw [efs28, List.getElem?_set_ne (by decide)]; exact hfT
      have hfs28_8 : fs28[8]? = some (.int v_11) := by rw [efs28]; exact List.getElem?_set_self (by omega)
      have hlfs28 : fs28.length = 12 := by rw [efs28, List.length_set]; exact hl0
      refine lv_aload_n hx hb ld_X11_feed_77 rfl (lv_at hl 1 rfl) ?_
      have hPc := hP.sub (ws' := [(q0, .inr (3, fs28))]) [0] rfl
      have hDc := hD.sub (ws' := [(q0, .inr (3, fs28))]) [0] (by decide) rfl
      have hKc := hK.sub (tys' := []) [] rfl
      have hFc := va_free (wc := [(q0, .inr (3, fs28))]) hD hS hA [0] rfl
      refine va_callv (va_runV (As := []) (rest := []) (C := "TableTongue") (Ts := lw_w ly_X11_feed prog_1_method_2_code 5 (some .int)) ⟨hx, hb, hml, hown, hts⟩ (x_X11_forget l D q0 H.size fs28 hlfs28) ⟨callB_of 0 hts (lw_GoodIn (List.mem_cons_of_mem _ (lw_in 1621 (by decide +kernel) (by decide +kernel))) (by decide +kernel)) rfl rfl rfl (hts _ (List.mem_cons_of_mem _ (lw_in 394 (by decide +kernel) (by decide +kernel)))) (hts _ (List.mem_cons_of_mem _ (lw_in 1618 (by decide +kernel) (by decide +kernel)))) ⟨by decide, by decide, by decide +kernel⟩ ⟨Nat.le_of_ble_eq_true rfl, Nat.le_of_ble_eq_true rfl⟩, hts _ (List.mem_cons_of_mem _ (lw_in 1620 (by decide +kernel) (by decide +kernel))), hts _ (List.mem_cons_of_mem _ (lw_in 7 (by decide +kernel) (by decide +kernel)))⟩ ⟨lw_PY.blind, va_recv hKc hPc (ci := 3) (q0 := 0) rfl rfl, fun U hU hW => ⟨rfl, by rw [hU], by rw [hU]; exact hPc, va_K.moved hW.alike hKc, hDc.weaken (fun _ _ _ _ => trivial)⟩⟩ rfl rfl hl.1 rfl (lv_room (Nat.le_of_ble_eq_true rfl)) ld_X11_feed_78 ⟨Nat.le_of_ble_eq_true rfl, Nat.le_of_ble_eq_true rfl⟩) hS (fun q _ h => hFc q h) hFc (fun u t H1 locs ht hvm hw hB hz1 hk1 hS => ?_)
      obtain ⟨hP, -, -⟩ := hB
      rw [ht] at hP
      obtain ⟨fsF, efsF⟩ : ∃ z, z = fs28.set 9 (Value.int 0) := ⟨_, rfl⟩
      rw [← efsF] at hP
      have hF_0 : fsF[0]? = some (.ref q1) := by rw [efsF, List.getElem?_set_ne (by decide)]; exact hfs28_0
      have hF_8 : fsF[8]? = some (.int v_11) := by rw [efsF, List.getElem?_set_ne (by decide)]; exact hfs28_8
      refine lv_aload_n hx hb ld_X11_feed_81 rfl (lv_at hl 1 rfl) ?_
      refine va_get (D := D) (ci := 3) (v := .int v_11) (C := "TableTongue") (T := al_TX11) (N := 12) hx hb hts hin hown hK hP 0 rfl rfl 8 (by decide) (hts (.fieldLink "TableTongue" 80 "TableTongue" "size" "I") (List.mem_cons_of_mem _ (lw_in 1585 (by decide +kernel) (by decide +kernel)))) (fun _ h9 => h9) hF_8 ld_X11_feed_82 ?_
      exact W.iret (v := v_11) hx hb hr (fun t ht hW => ⟨⟨v_11, (), rfl, (by rw [ev_11]; exact Int32.zero_add _), trivial⟩, hS.F ht⟩) hS.2.2 ld_X11_feed_85
    | succ n ih =>
      intro i hi f H locs ls hP hD hS hl
      refine lv_iload hx hb ld_X11_feed_34 (lv_at hl 0 rfl) ?_
      refine lv_iload_n hx hb ld_X11_feed_36 rfl (lv_at hl 2 rfl) ?_
      refine lv_icmp_ge (tgt := 67) hx hb ld_X11_feed_37 (by decide) (fun z => absurd z (show ¬ nI N ≤ nI i by rw [nI_leI (by omega) (by omega)]; omega)) (fun _ => ?_)
      refine lv_aload_n hx hb ld_X11_feed_40 rfl (lv_at hl 1 rfl) ?_
      refine va_get (D := D) (ci := 3) (v := .ref q1) (C := "TableTongue") (T := al_TX11) (N := 12) hx hb hts hin hown hK hP 0 rfl rfl 0 (by decide) (hts (.fieldLink "TableTongue" 9 "TableTongue" "text" "[B") (List.mem_cons_of_mem _ (lw_in 1577 (by decide +kernel) (by decide +kernel)))) (fun _ h9 => h9) hfT ld_X11_feed_41 ?_
      refine lv_aload_n hx hb ld_X11_feed_44 rfl (lv_at hl 1 rfl) ?_
      refine va_get (D := D) (ci := 3) (v := .int 0) (C := "TableTongue") (T := al_TX11) (N := 12) hx hb hts hin hown hK hP 0 rfl rfl 8 (by decide) (hts (.fieldLink "TableTongue" 80 "TableTongue" "size" "I") (List.mem_cons_of_mem _ (lw_in 1585 (by decide +kernel) (by decide +kernel)))) (fun _ h9 => h9) hf8 ld_X11_feed_45 ?_
      refine lv_iload hx hb ld_X11_feed_48 (lv_at hl 0 rfl) ?_
      refine lv_iadd hx hb ld_X11_feed_50 ?_
      refine lv_topi (fun v_21 ev_21 => ?_)
      refine lv_lload_n hx hb ld_X11_feed_51 rfl (lv_at hl 3 rfl) ?_
      refine lv_bipush (v := 8) hx hb ld_X11_feed_52 (by decide) ?_
      refine lv_iload hx hb ld_X11_feed_54 (lv_at hl 0 rfl) ?_
      refine lv_imul hx hb ld_X11_feed_56 ?_
      refine lv_topi (fun v_22 ev_22 => ?_)
      refine lv_lshr hx hb ld_X11_feed_57 rfl ?_
      refine lv_topl (fun v_23 ev_23 => ?_)
      refine lv_l2i hx hb ld_X11_feed_58 rfl ?_
      refine lv_topi (fun v_24 ev_24 => ?_)
      refine lv_i2b hx hb ld_X11_feed_59 rfl ?_
      refine lv_topi (fun v_25 ev_25 => ?_)
      refine va_bast hx hb hK hP hD hS 1 0 rfl rfl (show vp_in v_21 6000 by rw [ev_21, Int32.zero_add]; exact vp_in_nI (by omega) (by decide)) ld_X11_feed_60 (fun H locs hP hD hS => ?_)
      generalize upd f _ _ = f at hP hD
      have hP : va_P D al_cl [(q0, .inr (3, fs)), (q1, .inl (cA, 6000, .inl f))] H := hP
      have hD : va_D A [(q0, .inr (3, fs)), (q1, .inl (cA, 6000, .inl f))] := hD
      refine lv_iinc (v := nI (i + 1)) (lv' := [(4, .int (nI (i + 1))), (0, .ref q0), (1, .int (nI N)), (2, .long a2)]) hx hb ld_X11_feed_61 hl (k := 0) rfl (nI_1 i) (by decide) rfl (fun ls hl => ?_)
      refine lv_goto (tgt := 34) hx hb ld_X11_feed_64 (by decide) ?_
      exact ih (i + 1) (by omega) f H locs ls hP hD hS hl
  exact key N 0 (by omega) f _ _ ls hP hD hS hl
set_option maxHeartbeats 4000000 in
set_option maxRecDepth 100000 in
theorem m_X12_feed_ok (l : Launch) (D : va_G) (q0 q1 sz : Nat) (cA : ClassId) (f : Nat → Int32) (fs : List Value) (hl0 : fs.length = 160) (hfT : fs[1]? = some (.ref q1)) (tv : Int32) (hf0 : fs[0]? = some (.int tv)) (hf2 : fs[2]? = some (.int 0)) (N : Nat) (hN1 : 1 ≤ N) (hN8 : N ≤ 8) (a2 : Int64) : Met l ly_X12_feed (lw_w ly_X12_feed prog_14_method_11_code 5 (some .int)) ({ frames := 3, cells := 0, slots := 0, locals := 90 }) (lw_PT D 0 q0 q1 .int cA f fs sz [.ref q0, .int (nI N), .long a2]) (va_Qi (S := List Value) (fun r u => r = nI N ∧ u.length = 160 ∧ u[0]? = some (.int 0)) (fun u U => va_P D al_cl [(q0, .inr (0, u))] U.heap ∧ va_K D al_cl [] U ∧ va_D (va_A [(q0, .inr (0, fs)), (q1, .inl (cA, 6000, .inl f))] sz) [(q0, .inr (0, u))]) (va_A [(q0, .inr (0, fs)), (q1, .inl (cA, 6000, .inl f))] sz)) 0 0 (va_A [(q0, .inr (0, fs)), (q1, .inl (cA, 6000, .inl f))] sz) := by
  refine Met.ofW (cc := prog_14_method_11_code) (maxL := 5) (ret := (some .int)) (by decide) rfl ?_
  intro p e s m args below meth c s₁ B hml hv
  obtain ⟨rfl, hsz, hP, hK, hD0⟩ := hv
  subst hsz
  have hx := B.exec
  have hb := B.bytes
  have hr := B.returns
  have hts := atoms_spec (ws := lw_w ly_X12_feed prog_14_method_11_code 5 (some .int)) B.pre
  have hin : ∀ w ∈ u_ws "TableTongueModel" al_TX12 160, w ∈ lw_w ly_X12_feed prog_14_method_11_code 5 (some .int) := fun w hw => List.mem_cons_of_mem _ (lw_u (ci := 0) rfl w hw)
  have hown : s.vm.findClass "TableTongueModel" = some m.cls := findClass_of_methodNamed B.named
  have hD := hD0.self (sz := s.heap.size)
  generalize hAe : va_A [(q0, .inr (0, fs)), (q1, .inl (cA, 6000, .inl f))] s.heap.size = A at hD ⊢
  have hA : ∀ q : Nat, s.heap.size ≤ q → A q := fun q h => by rw [← hAe]; exact Or.inr h
  have hS : va_S A s.heap s.heap [] := va_S.rf
  have hl := lv_entry ([.ref q0, .int (nI N), .long a2]) (n := 5) (Nat.le_of_ble_eq_true rfl)
  rw [lg_entry_eq]
  generalize (lg_sl ([.ref q0, .int (nI N), .long a2]) ++ List.replicate (5 - (lg_sl ([.ref q0, .int (nI N), .long a2])).length) Slot.unset).toArray = ls at hl ⊢
  have hl : lv_has ls 5 [(0, .ref q0), (1, .int (nI N)), (2, .long a2)] := hl
  refine lv_aload_n hx hb ld_X12_feed_0 rfl (lv_at hl 0 rfl) ?_
  refine lv_iload_n hx hb ld_X12_feed_1 rfl (lv_at hl 1 rfl) ?_
  refine lv_iconst (v := 1) hx hb ld_X12_feed_2 (by decide) ?_
  refine lv_icmp_lt (tgt := 24) hx hb ld_X12_feed_3 (by decide) (fun z => absurd z (show ¬ nI N < 1 by rw [show (1 : Int32) = nI 1 from rfl, nI_ltI (by omega) (by omega)]; omega)) (fun _ => ?_)
  refine lv_iload_n hx hb ld_X12_feed_6 rfl (lv_at hl 1 rfl) ?_
  refine lv_bipush (v := 8) hx hb ld_X12_feed_7 (by decide) ?_
  refine lv_icmp_gt (tgt := 24) hx hb ld_X12_feed_9 (by decide) (fun z => absurd z (show ¬ (8 : Int32) < nI N by rw [show (8 : Int32) = nI 8 from rfl, nI_ltI (by omega) (by omega)]; omega)) (fun _ => ?_)
  refine lv_aload_n hx hb ld_X12_feed_12 rfl (lv_at hl 0 rfl) ?_
  refine va_get (D := D) (ci := 0) (v := .int 0) (C := "TableTongueModel") (T := al_TX12) (N := 160) hx hb hts hin hown hK hP 0 rfl rfl 2 (by decide) (hts (.fieldLink "TableTongueModel" 506 "TableTongueModel" "size" "I") (List.mem_cons_of_mem _ (lw_in 3071 (by decide +kernel) (by decide +kernel)))) (fun _ h9 => h9) hf2 ld_X12_feed_13 ?_
  refine lv_iload_n hx hb ld_X12_feed_16 rfl (lv_at hl 1 rfl) ?_
  refine lv_iadd hx hb ld_X12_feed_17 ?_
  refine lv_topi (fun v_1 ev_1 => ?_)
  refine lv_sipush (v := 6000) hx hb ld_X12_feed_18 (by decide) ?_
  refine lv_icmp_le (tgt := 28) hx hb ld_X12_feed_21 (by decide) (fun _ => ?_) (fun z => absurd (show v_1 ≤ 6000 by rw [ev_1, Int32.zero_add, show (6000 : Int32) = nI 6000 from rfl, nI_leI (by omega) (by omega)]; omega) z)
  refine lv_iconst (v := 0) hx hb ld_X12_feed_28 (by decide) ?_
  refine va_put (D := D) (ci := 0) (v := .int 0) (ty := .int) (C := "TableTongueModel") (T := al_TX12) (N := 160) hx hb hts hin (al_tyf 0) (al_Cls.2 0 _ _ _ rfl).2.1 (al_Cls.2 0 _ _ _ rfl).2.2 hown hK hP hD hS 0 rfl rfl 0 (by decide) (hts (.fieldLink "TableTongueModel" 335 "TableTongueModel" "thrown" "I") (List.mem_cons_of_mem _ (lw_in 3069 (by decide +kernel) (by decide +kernel)))) (fun _ h9 => h9) rfl (by decide +kernel) rfl rfl (by omega) ld_X12_feed_29 (fun H locs hP hD hS => ?_)
  obtain ⟨fs29, efs29⟩ : ∃ z, z = fs.set 0 (.int 0) := ⟨_, rfl⟩
  have hP : va_P D al_cl [(q0, .inr (0, fs29)), (q1, .inl (cA, 6000, .inl f))] H := by rw [efs29]; exact hP
  have hD : va_D A [(q0, .inr (0, fs29)), (q1, .inl (cA, 6000, .inl f))] := by rw [efs29]; exact hD
  have hfs29_1 : fs29[1]? = some (.ref q1) := by rw [efs29, List.getElem?_set_ne (by decide)]; exact hfT
  have hfs29_2 : fs29[2]? = some (.int 0) := by rw [efs29, List.getElem?_set_ne (by decide)]; exact hf2
  have hfs29_0 : fs29[0]? = some (.int 0) := by rw [efs29]; exact List.getElem?_set_self (by omega)
  have hlfs29 : fs29.length = 160 := by rw [efs29, List.length_set]; exact hl0
  refine lv_aload_n hx hb ld_X12_feed_32 rfl (lv_at hl 0 rfl) ?_
  refine va_get (D := D) (ci := 0) (v := .int 0) (C := "TableTongueModel") (T := al_TX12) (N := 160) hx hb hts hin hown hK hP 0 rfl rfl 0 (by decide) (hts (.fieldLink "TableTongueModel" 335 "TableTongueModel" "thrown" "I") (List.mem_cons_of_mem _ (lw_in 3069 (by decide +kernel) (by decide +kernel)))) (fun _ h9 => h9) hfs29_0 ld_X12_feed_33 ?_
  refine lv_if_le (tgt := 41) hx hb ld_X12_feed_36 (by decide) (fun _ => ?_) (fun z => absurd z (by decide))
  refine lv_iconst (v := 0) hx hb ld_X12_feed_41 (by decide) ?_
  refine lv_istore (lv' := [(4, .int 0), (0, .ref q0), (1, .int (nI N)), (2, .long a2)]) hx hb ld_X12_feed_42 hl (by decide) rfl (fun ls hl => ?_)
  have hl : lv_has ls 5 [(4, .int (nI 0)), (0, .ref q0), (1, .int (nI N)), (2, .long a2)] := hl
  have key : ∀ (n i : Nat), i + n = N → ∀ (f : Nat → Int32) (H : Heap) (locs : List Loc) (ls : Array Slot) (g : List Value) (hlg : g.length = 160) (hgT : g[1]? = some (.ref q1)) (hg0 : g[0]? = some (.int 0)) (hg2 : g[2]? = some (.int (nI i))) , va_P D al_cl [(q0, .inr (0, g)), (q1, .inl (cA, 6000, .inl f))] H → va_D A [(q0, .inr (0, g)), (q1, .inl (cA, 6000, .inl f))] → va_S A s.heap H locs → lv_has ls 5 [(4, .int (nI i)), (0, .ref q0), (1, .int (nI N)), (2, .long a2)] → W p l e (headSpec (lw_w ly_X12_feed prog_14_method_11_code 5 (some .int)) ({ frames := 3, cells := 0, slots := 0, locals := 90 })).room s m [.ref q0, .int (nI N), .long a2].toArray below meth c H locs 0 0 (MQ below (va_Qi (S := List Value) (fun r u => r = nI N ∧ u.length = 160 ∧ u[0]? = some (.int 0)) (fun u U => va_P D al_cl [(q0, .inr (0, u))] U.heap ∧ va_K D al_cl [] U ∧ va_D A [(q0, .inr (0, u))]) A) [.ref q0, .int (nI N), .long a2].toArray s 0 0 A) (F0 m 44 ls []) := by
    intro n
    induction n with
    | zero =>
      intro i hi f H locs ls g hlg hgT hg0 hg2 hP hD hS hl
      obtain rfl : N = i := by omega
      refine lv_iload hx hb ld_X12_feed_44 (lv_at hl 0 rfl) ?_
      refine lv_iload_n hx hb ld_X12_feed_46 rfl (lv_at hl 2 rfl) ?_
      refine lv_icmp_ge (tgt := 87) hx hb ld_X12_feed_47 (by decide) (fun _ => ?_) (fun z => absurd (show nI N ≤ nI N from Int32.le_refl _) z)
      refine lv_aload_n hx hb ld_X12_feed_87 rfl (lv_at hl 1 rfl) ?_
      refine lv_iconst (v := 0) hx hb ld_X12_feed_88 (by decide) ?_
      refine va_put (D := D) (ci := 0) (v := .int 0) (ty := .boolean) (C := "TableTongueModel") (T := al_TX12) (N := 160) hx hb hts hin (al_tyf 0) (al_Cls.2 0 _ _ _ rfl).2.1 (al_Cls.2 0 _ _ _ rfl).2.2 hown hK hP hD hS 0 rfl rfl 3 (by decide) (hts (.fieldLink "TableTongueModel" 509 "TableTongueModel" "compiled" "Z") (List.mem_cons_of_mem _ (lw_in 3072 (by decide +kernel) (by decide +kernel)))) (fun _ h9 => h9) rfl (by decide +kernel) rfl rfl (by omega) ld_X12_feed_89 (fun H locs hP hD hS => ?_)
      obtain ⟨fs30, efs30⟩ : ∃ z, z = g.set 3 (.int 0) := ⟨_, rfl⟩
      have hP : va_P D al_cl [(q0, .inr (0, fs30)), (q1, .inl (cA, 6000, .inl f))] H := by rw [efs30]; exact hP
      have hD : va_D A [(q0, .inr (0, fs30)), (q1, .inl (cA, 6000, .inl f))] := by rw [efs30]; exact hD
      have hfs30_0 : fs30[0]? = some (.int 0) := by rw [efs30, List.getElem?_set_ne (by decide)]; exact hg0
      have hfs30_1 : fs30[1]? = some (.ref q1) := by rw [efs30, List.getElem?_set_ne (by decide)]; exact hgT
      have hfs30_2 : fs30[2]? = some (.int (nI N)) := by rw [efs30, List.getElem?_set_ne (by decide)]; exact hg2
      have hfs30_3 : fs30[3]? = some (.int 0) := by rw [efs30]; exact List.getElem?_set_self (by omega)
      have hlfs30 : fs30.length = 160 := by rw [efs30, List.length_set]; exact hlg
      refine lv_aload_n hx hb ld_X12_feed_92 rfl (lv_at hl 1 rfl) ?_
      refine va_get (D := D) (ci := 0) (v := .int (nI N)) (C := "TableTongueModel") (T := al_TX12) (N := 160) hx hb hts hin hown hK hP 0 rfl rfl 2 (by decide) (hts (.fieldLink "TableTongueModel" 506 "TableTongueModel" "size" "I") (List.mem_cons_of_mem _ (lw_in 3071 (by decide +kernel) (by decide +kernel)))) (fun _ h9 => h9) hfs30_2 ld_X12_feed_93 ?_
      exact W.iret (v := nI N) hx hb hr (fun t ht hW => ⟨⟨nI N, fs30, rfl, ⟨rfl, hlfs30, hfs30_0⟩, by rw [ht]; exact hP.sub [0] rfl, va_K.moved hW.alike (hK.sub (tys' := []) [] rfl), hD.sub [0] (by decide) rfl⟩, hS.F ht⟩) hS.2.2 ld_X12_feed_96
    | succ n ih =>
      intro i hi f H locs ls g hlg hgT hg0 hg2 hP hD hS hl
      refine lv_iload hx hb ld_X12_feed_44 (lv_at hl 0 rfl) ?_
      refine lv_iload_n hx hb ld_X12_feed_46 rfl (lv_at hl 2 rfl) ?_
      refine lv_icmp_ge (tgt := 87) hx hb ld_X12_feed_47 (by decide) (fun z => absurd z (show ¬ nI N ≤ nI i by rw [nI_leI (by omega) (by omega)]; omega)) (fun _ => ?_)
      refine lv_aload_n hx hb ld_X12_feed_50 rfl (lv_at hl 1 rfl) ?_
      refine va_get (D := D) (ci := 0) (v := .ref q1) (C := "TableTongueModel") (T := al_TX12) (N := 160) hx hb hts hin hown hK hP 0 rfl rfl 1 (by decide) (hts (.fieldLink "TableTongueModel" 7 "TableTongueModel" "text" "[I") (List.mem_cons_of_mem _ (lw_in 3070 (by decide +kernel) (by decide +kernel)))) (fun _ h9 => h9) hgT ld_X12_feed_51 ?_
      refine lv_aload_n hx hb ld_X12_feed_54 rfl (lv_at hl 1 rfl) ?_
      refine va_get (D := D) (ci := 0) (v := .int (nI i)) (C := "TableTongueModel") (T := al_TX12) (N := 160) hx hb hts hin hown hK hP 0 rfl rfl 2 (by decide) (hts (.fieldLink "TableTongueModel" 506 "TableTongueModel" "size" "I") (List.mem_cons_of_mem _ (lw_in 3071 (by decide +kernel) (by decide +kernel)))) (fun _ h9 => h9) hg2 ld_X12_feed_55 ?_
      refine lv_lload_n hx hb ld_X12_feed_58 rfl (lv_at hl 3 rfl) ?_
      refine lv_bipush (v := 8) hx hb ld_X12_feed_59 (by decide) ?_
      refine lv_iload hx hb ld_X12_feed_61 (lv_at hl 0 rfl) ?_
      refine lv_imul hx hb ld_X12_feed_63 ?_
      refine lv_topi (fun v_21 ev_21 => ?_)
      refine lv_lushr hx hb ld_X12_feed_64 rfl ?_
      refine lv_topl (fun v_22 ev_22 => ?_)
      refine lv_l2i hx hb ld_X12_feed_65 rfl ?_
      refine lv_topi (fun v_23 ev_23 => ?_)
      refine lv_sipush (v := 255) hx hb ld_X12_feed_66 (by decide) ?_
      refine lv_iand hx hb ld_X12_feed_69 ?_
      refine lv_topi (fun v_24 ev_24 => ?_)
      refine va_iast hx hb hK hP hD hS 1 0 rfl rfl (vp_in_nI (by omega) (by decide)) ld_X12_feed_70 (fun H locs hP hD hS => ?_)
      generalize upd f _ _ = f at hP hD
      have hP : va_P D al_cl [(q0, .inr (0, g)), (q1, .inl (cA, 6000, .inl f))] H := hP
      have hD : va_D A [(q0, .inr (0, g)), (q1, .inl (cA, 6000, .inl f))] := hD
      refine lv_aload_n hx hb ld_X12_feed_71 rfl (lv_at hl 1 rfl) ?_
      refine lv_dup hx hb ld_X12_feed_72 rfl ?_
      refine va_get (D := D) (ci := 0) (v := .int (nI i)) (C := "TableTongueModel") (T := al_TX12) (N := 160) hx hb hts hin hown hK hP 0 rfl rfl 2 (by decide) (hts (.fieldLink "TableTongueModel" 506 "TableTongueModel" "size" "I") (List.mem_cons_of_mem _ (lw_in 3071 (by decide +kernel) (by decide +kernel)))) (fun _ h9 => h9) hg2 ld_X12_feed_73 ?_
      refine lv_iconst (v := 1) hx hb ld_X12_feed_76 (by decide) ?_
      refine lv_iadd hx hb ld_X12_feed_77 ?_
      refine lv_topi (fun v_25 ev_25 => ?_)
      refine va_put (D := D) (ci := 0) (v := .int v_25) (ty := .int) (C := "TableTongueModel") (T := al_TX12) (N := 160) hx hb hts hin (al_tyf 0) (al_Cls.2 0 _ _ _ rfl).2.1 (al_Cls.2 0 _ _ _ rfl).2.2 hown hK hP hD hS 0 rfl rfl 2 (by decide) (hts (.fieldLink "TableTongueModel" 506 "TableTongueModel" "size" "I") (List.mem_cons_of_mem _ (lw_in 3071 (by decide +kernel) (by decide +kernel)))) (fun _ h9 => h9) rfl (by decide +kernel) rfl rfl (by omega) ld_X12_feed_78 (fun H locs hP hD hS => ?_)
      obtain ⟨fs31, efs31⟩ : ∃ z, z = g.set 2 (.int v_25) := ⟨_, rfl⟩
      have hP : va_P D al_cl [(q0, .inr (0, fs31)), (q1, .inl (cA, 6000, .inl f))] H := by rw [efs31]; exact hP
      have hD : va_D A [(q0, .inr (0, fs31)), (q1, .inl (cA, 6000, .inl f))] := by rw [efs31]; exact hD
      have hfs31_0 : fs31[0]? = some (.int 0) := by rw [efs31, List.getElem?_set_ne (by decide)]; exact hg0
      have hfs31_1 : fs31[1]? = some (.ref q1) := by rw [efs31, List.getElem?_set_ne (by decide)]; exact hgT
      have hfs31_2 : fs31[2]? = some (.int v_25) := by rw [efs31]; exact List.getElem?_set_self (by omega)
      have hlfs31 : fs31.length = 160 := by rw [efs31, List.length_set]; exact hlg
      refine lv_iinc (v := nI (i + 1)) (lv' := [(4, .int (nI (i + 1))), (0, .ref q0), (1, .int (nI N)), (2, .long a2)]) hx hb ld_X12_feed_81 hl (k := 0) rfl (nI_1 i) (by decide) rfl (fun ls hl => ?_)
      refine lv_goto (tgt := 44) hx hb ld_X12_feed_84 (by decide) ?_
      exact ih (i + 1) (by omega) f H locs ls fs31 hlfs31 hfs31_1 hfs31_0 (by rw [hfs31_2, ev_25]; exact congrArg (fun z => some (Value.int z)) (nI_1 i)) hP hD hS hl
  exact key N 0 (by omega) f _ _ ls fs29 hlfs29 hfs29_1 hfs29_0 hfs29_2 hP hD hS hl
