/-! ===== 32: the law's wrappers where the class answers (by wip/p1/walk.py) ===== -/
/-- the class's object, and the law's row of one long -/
def lw_PO (D : va_G) (q0 : Nat) (fs : List Value) (o : Nat) (cA : ClassId) (g : Nat → Int64) (sz : Nat) (vs : List Value) : Array Value → State → Prop := va_Pc vs (fun U => U.heap.size = sz ∧ va_P D al_cl [(q0, .inr (3, fs)), (o, .inl (cA, 1, .inr (.inl g)))] U.heap ∧ va_K D al_cl [(cA, .long)] U ∧ va_D (fun _ => True) [(q0, .inr (3, fs)), (o, .inl (cA, 1, .inr (.inl g)))] ∧ lw_E (fun q => sz ≤ q) U)
theorem lw_PO.blind {D : va_G} {q0 : Nat} {fs : List Value} {o : Nat} {cA : ClassId} {g : Nat → Int64} {sz : Nat} {vs : List Value} : FrameBlind (lw_PO D q0 fs o cA g sz vs) := by
  intro a U g mk h
  obtain ⟨h0, h1, h2, h3, h4, h5⟩ := h
  exact ⟨h0, h1, h2, va_K.moved (u := U) (U := U.calling g mk a) (Vm.Alike.refl U.vm) h3, h4, h5.calling⟩
/-- the class's object, its text, and the law's row of one long -/
def lw_PF (D : va_G) (q0 : Nat) (fs : List Value) (q1 : Nat) (cB : ClassId) (f : Nat → Int32) (o : Nat) (cA : ClassId) (g : Nat → Int64) (sz : Nat) (vs : List Value) : Array Value → State → Prop := va_Pc vs (fun U => U.heap.size = sz ∧ va_P D al_cl [(q0, .inr (3, fs)), (q1, .inl (cB, 6000, .inl f)), (o, .inl (cA, 1, .inr (.inl g)))] U.heap ∧ va_K D al_cl [(cB, .byte), (cA, .long)] U ∧ va_D (fun _ => True) [(q0, .inr (3, fs)), (q1, .inl (cB, 6000, .inl f)), (o, .inl (cA, 1, .inr (.inl g)))])
theorem lw_PF.blind {D : va_G} {q0 : Nat} {fs : List Value} {q1 : Nat} {cB : ClassId} {f : Nat → Int32} {o : Nat} {cA : ClassId} {g : Nat → Int64} {sz : Nat} {vs : List Value} : FrameBlind (lw_PF D q0 fs q1 cB f o cA g sz vs) := by
  intro a U g mk h
  obtain ⟨h0, h1, h2, h3, h4⟩ := h
  exact ⟨h0, h1, h2, va_K.moved (u := U) (U := U.calling g mk a) (Vm.Alike.refl U.vm) h3, h4⟩
theorem ld_L_feed_9 : decode method_3_code 9 = .ok (.i2l, 1) := by decide +kernel
theorem ld_L_feed_10 : decode method_3_code 10 = .ok (.lastore, 1) := by decide +kernel
theorem ld_L_feed_11 : decode method_3_code 11 = .ok (.goto 7, 3) := by decide +kernel
theorem ld_L_feed_18 : decode method_3_code 18 = .ok (.iconst 0, 1) := by decide +kernel
theorem ld_L_feed_19 : decode method_3_code 19 = .ok (.ireturn, 1) := by decide +kernel
theorem ld_L_fault_7 : decode method_4_code 7 = .ok (.i2l, 1) := by decide +kernel
theorem ld_L_fault_8 : decode method_4_code 8 = .ok (.lastore, 1) := by decide +kernel
theorem ld_L_fault_9 : decode method_4_code 9 = .ok (.goto 6, 3) := by decide +kernel
theorem ld_L_fault_15 : decode method_4_code 15 = .ok (.iconst 0, 1) := by decide +kernel
theorem ld_L_fault_16 : decode method_4_code 16 = .ok (.ireturn, 1) := by decide +kernel
theorem ld_L_count_7 : decode method_11_code 7 = .ok (.i2l, 1) := by decide +kernel
theorem ld_L_count_8 : decode method_11_code 8 = .ok (.lastore, 1) := by decide +kernel
theorem ld_L_count_9 : decode method_11_code 9 = .ok (.goto 6, 3) := by decide +kernel
theorem ld_L_count_15 : decode method_11_code 15 = .ok (.iconst 0, 1) := by decide +kernel
theorem ld_L_count_16 : decode method_11_code 16 = .ok (.ireturn, 1) := by decide +kernel
set_option maxHeartbeats 4000000 in
set_option maxRecDepth 100000 in
theorem w_L_feed_ok (l : Launch) (D : va_G) (q0 sz : Nat) (fs : List Value) (hl0 : fs.length = 12) (q1 : Nat) (cB : ClassId) (f : Nat → Int32) (hfT : fs[0]? = some (.ref q1)) (hf8 : fs[8]? = some (.int 0)) (o : Nat) (cA : ClassId) (g : Nat → Int64) (N : Nat) (hN1 : 1 ≤ N) (hN8 : N ≤ 8) (a2 : Int64) : Met l ly_L_feed (lw_wH ly_L_feed method_3_code 6 (some .int) [(0, 11, 14, 13)]) ({ frames := 6, cells := 0, slots := 0, locals := 160 }) (lw_PF D q0 fs q1 cB f o cA g sz [.ref q0, .int (nI N), .long a2, .ref o]) (va_Qi (S := Nat → Int64) (fun r h => r = 0 ∧ h 0 = (nI N : Int32).toInt64) (fun h U => va_P D al_cl [(o, .inl (cA, 1, .inr (.inl h)))] U.heap ∧ va_K D al_cl [(cA, .long)] U ∧ va_D (va_A [(q0, .inr (3, fs)), (q1, .inl (cB, 6000, .inl f)), (o, .inl (cA, 1, .inr (.inl g)))] sz) [(o, .inl (cA, 1, .inr (.inl h)))]) (va_A [(q0, .inr (3, fs)), (q1, .inl (cB, 6000, .inl f)), (o, .inl (cA, 1, .inr (.inl g)))] sz)) 0 0 (va_A [(q0, .inr (3, fs)), (q1, .inl (cB, 6000, .inl f)), (o, .inl (cA, 1, .inr (.inl g)))] sz) := by
  refine va_MetW (cc := method_3_code) (maxL := 6) (ret := (some .int)) (hh := [(0, 11, 14, 13)]) (by decide) rfl ?_
  intro p e s m args below meth c s₁ B hml hv
  obtain ⟨rfl, hsz, hP, hK, hD0⟩ := hv
  subst hsz
  have hx := B.exec
  have hb := B.bytes
  have hr := B.returns
  have hts := atoms_spec (ws := lw_wH ly_L_feed method_3_code 6 (some .int) [(0, 11, 14, 13)]) B.pre
  have hown : s.vm.findClass "TableTongueLaw" = some m.cls := findClass_of_methodNamed B.named
  have hD := hD0.self (sz := s.heap.size)
  generalize hAe : va_A [(q0, .inr (3, fs)), (q1, .inl (cB, 6000, .inl f)), (o, .inl (cA, 1, .inr (.inl g)))] s.heap.size = A at hD ⊢
  have hA : ∀ q : Nat, s.heap.size ≤ q → A q := fun q h => by rw [← hAe]; exact Or.inr h
  have hS : va_S A s.heap s.heap [] := va_S.rf
  have hl := lv_entry ([.ref q0, .int (nI N), .long a2, .ref o]) (n := 6) (Nat.le_of_ble_eq_true rfl)
  rw [lg_entry_eq]
  generalize (lg_sl ([.ref q0, .int (nI N), .long a2, .ref o]) ++ List.replicate (6 - (lg_sl ([.ref q0, .int (nI N), .long a2, .ref o])).length) Slot.unset).toArray = ls at hl ⊢
  have hl : lv_has ls 6 [(0, .ref q0), (1, .int (nI N)), (2, .long a2), (4, .ref o)] := hl
  refine lv_aload hx hb ld_L_feed_0 (lv_at hl 3 rfl) ?_
  refine lv_iconst (v := 0) hx hb ld_L_feed_2 (by decide) ?_
  refine lv_aload_n hx hb ld_L_feed_3 rfl (lv_at hl 0 rfl) ?_
  refine lv_iload_n hx hb ld_L_feed_4 rfl (lv_at hl 1 rfl) ?_
  refine lv_lload_n hx hb ld_L_feed_5 rfl (lv_at hl 2 rfl) ?_
  have hPc := hP.sub (ws' := [(q0, .inr (3, fs)), (q1, .inl (cB, 6000, .inl f))]) [0, 1] rfl
  have hDc := hD.sub (ws' := [(q0, .inr (3, fs)), (q1, .inl (cB, 6000, .inl f))]) [0, 1] (by decide) rfl
  have hKc := hK.sub (tys' := [(cB, .byte)]) [0] rfl
  have hFc := va_free (wc := [(q0, .inr (3, fs)), (q1, .inl (cB, 6000, .inl f))]) hD hS hA [0, 1] rfl
  refine va_calli (va_runV (As := [.int (nI N), .long a2]) (rest := [.int 0, .ref o]) (C := "TableTongue") (Ts := lw_wH ly_L_feed method_3_code 6 (some .int) [(0, 11, 14, 13)]) ⟨hx, hb, hml, hown, hts⟩ (x_X11_feed_ok l D q0 q1 s.heap.size cB f fs hl0 hfT hf8 N hN1 hN8 a2) ⟨callB_of 2 hts (lw_GoodInH (List.mem_cons_of_mem _ (lw_in 2103 (by decide +kernel) (by decide +kernel))) (by decide +kernel)) rfl rfl rfl (hts _ (List.mem_cons_of_mem _ (lw_in 394 (by decide +kernel) (by decide +kernel)))) (hts _ (List.mem_cons_of_mem _ (lw_in 2100 (by decide +kernel) (by decide +kernel)))) ⟨by decide, by decide, by decide +kernel⟩ ⟨Nat.le_of_ble_eq_true rfl, Nat.le_of_ble_eq_true rfl⟩, hts _ (List.mem_cons_of_mem _ (lw_in 2101 (by decide +kernel) (by decide +kernel))), hts _ (List.mem_cons_of_mem _ (lw_in 2102 (by decide +kernel) (by decide +kernel)))⟩ ⟨lw_PT.blind, va_recv hKc hPc (ci := 3) (q0 := 0) rfl rfl, fun U hU hW => ⟨rfl, by rw [hU], by rw [hU]; exact hPc, va_K.moved hW.alike hKc, hDc.weaken (fun _ _ _ _ => trivial)⟩⟩ rfl rfl hl.1 rfl (lv_room (Nat.le_of_ble_eq_true rfl)) ld_L_feed_6 ⟨Nat.le_of_ble_eq_true rfl, Nat.le_of_ble_eq_true rfl⟩) hS (fun q _ h => hFc q h) hFc (fun r_1 u t H1 locs1 ht hvm hw _ hz1 hk1 hS => ?_)
  obtain rfl : r_1 = nI N := hw
  obtain ⟨hP, hD⟩ := va_join (wr := [(o, .inl (cA, 1, .inr (.inl g)))]) (w1 := []) hP hD [0, 1] [2] rfl rfl (by decide) (by decide) hk1 hFc (fun k q h => (by cases h)) ⟨fun i j x y h => (by cases h), fun k q h => (by cases h)⟩
  have hK := hK.sub (tys' := [(cA, .long)]) [1] rfl
  refine lv_i2l (v := (nI N : Int32).toInt64) hx hb ld_L_feed_9 rfl ?_
  refine va_last hx hb hK hP hD hS 0 0 rfl rfl (show vp_in (nI 0) 1 from vp_in_nI (by decide) (by decide)) ld_L_feed_10 (fun H locs hP hD hS => ?_)
  refine lv_goto (tgt := 18) hx hb ld_L_feed_11 (by decide) ?_
  refine lv_iconst (v := 0) hx hb ld_L_feed_18 (by decide) ?_
  exact W.iret (v := 0) hx hb hr (fun t ht hW => ⟨⟨0, _, rfl, ⟨rfl, pk_uLs⟩, by rw [ht]; exact hP, va_K.moved hW.alike hK, hD⟩, hS.F ht⟩) hS.2.2 ld_L_feed_19
set_option maxHeartbeats 4000000 in
set_option maxRecDepth 100000 in
theorem w_L_fault_ok (l : Launch) (D : va_G) (q0 sz : Nat) (fs : List Value) (hf8 : fs[8]? = some (.int 0)) (hf9 : fs[9]? = some (.int 0)) (hf10 : fs[10]? = some (.int (-1))) (hf11 : fs[11]? = some (.int (-1))) (o : Nat) (cA : ClassId) (g : Nat → Int64) (a1 : Int32) (hok : a1 = 0 ∨ a1 = 1) : Met l ly_L_fault (lw_wH ly_L_fault method_4_code 4 (some .int) [(0, 9, 12, 19)]) ({ frames := 6, cells := 0, slots := 0, locals := 160 }) (lw_PO D q0 fs o cA g sz [.ref q0, .int a1, .ref o]) (va_Qi (S := Nat → Int64) (fun r h => r = 0 ∧ h 0 = (-1 : Int32).toInt64) (fun h U => va_P D al_cl [(o, .inl (cA, 1, .inr (.inl h)))] U.heap ∧ va_K D al_cl [(cA, .long)] U ∧ va_D (va_A [(q0, .inr (3, fs)), (o, .inl (cA, 1, .inr (.inl g)))] sz) [(o, .inl (cA, 1, .inr (.inl h)))]) (va_A [(q0, .inr (3, fs)), (o, .inl (cA, 1, .inr (.inl g)))] sz)) 0 0 (va_A [(q0, .inr (3, fs)), (o, .inl (cA, 1, .inr (.inl g)))] sz) := by
  refine va_MetW (cc := method_4_code) (maxL := 4) (ret := (some .int)) (hh := [(0, 9, 12, 19)]) (by decide) rfl ?_
  intro p e s m args below meth c s₁ B hml hv
  obtain ⟨rfl, hsz, hP, hK, hD0, hE⟩ := hv
  subst hsz
  have hx := B.exec
  have hb := B.bytes
  have hr := B.returns
  have hts := atoms_spec (ws := lw_wH ly_L_fault method_4_code 4 (some .int) [(0, 9, 12, 19)]) B.pre
  have hown : s.vm.findClass "TableTongueLaw" = some m.cls := findClass_of_methodNamed B.named
  have hD := hD0.self (sz := s.heap.size)
  generalize hAe : va_A [(q0, .inr (3, fs)), (o, .inl (cA, 1, .inr (.inl g)))] s.heap.size = A at hD ⊢
  have hA : ∀ q : Nat, s.heap.size ≤ q → A q := fun q h => by rw [← hAe]; exact Or.inr h
  have hS : va_S A s.heap s.heap [] := va_S.rf
  have hl := lv_entry ([.ref q0, .int a1, .ref o]) (n := 4) (Nat.le_of_ble_eq_true rfl)
  rw [lg_entry_eq]
  generalize (lg_sl ([.ref q0, .int a1, .ref o]) ++ List.replicate (4 - (lg_sl ([.ref q0, .int a1, .ref o])).length) Slot.unset).toArray = ls at hl ⊢
  have hl : lv_has ls 4 [(0, .ref q0), (1, .int a1), (2, .ref o)] := hl
  refine lv_aload_n hx hb ld_L_fault_0 rfl (lv_at hl 2 rfl) ?_
  refine lv_iconst (v := 0) hx hb ld_L_fault_1 (by decide) ?_
  refine lv_aload_n hx hb ld_L_fault_2 rfl (lv_at hl 0 rfl) ?_
  refine lv_iload_n hx hb ld_L_fault_3 rfl (lv_at hl 1 rfl) ?_
  have hPc := hP.sub (ws' := [(q0, .inr (3, fs))]) [0] rfl
  have hKc := hK.sub (tys' := []) [] rfl
  refine va_calli (va_runV (As := [.int a1]) (rest := [.int 0, .ref o]) (C := "TableTongue") (Ts := lw_wH ly_L_fault method_4_code 4 (some .int) [(0, 9, 12, 19)]) ⟨hx, hb, hml, hown, hts⟩ (r_X11_fault l D q0 s.heap.size fs hf8 hf9 hf10 hf11 a1 hok) ⟨callB_of 1 hts (lw_GoodInH (List.mem_cons_of_mem _ (lw_in 2122 (by decide +kernel) (by decide +kernel))) (by decide +kernel)) rfl rfl rfl (hts _ (List.mem_cons_of_mem _ (lw_in 394 (by decide +kernel) (by decide +kernel)))) (hts _ (List.mem_cons_of_mem _ (lw_in 2119 (by decide +kernel) (by decide +kernel)))) ⟨by decide, by decide, by decide +kernel⟩ ⟨Nat.le_of_ble_eq_true rfl, Nat.le_of_ble_eq_true rfl⟩, hts _ (List.mem_cons_of_mem _ (lw_in 2120 (by decide +kernel) (by decide +kernel))), hts _ (List.mem_cons_of_mem _ (lw_in 2121 (by decide +kernel) (by decide +kernel)))⟩ ⟨lw_PX.blind, va_recv hKc hPc (ci := 3) (q0 := 0) rfl rfl, fun U hU hW => ⟨rfl, by rw [hU], by rw [hU]; exact hPc, va_K.moved hW.alike hKc, hE.go hW hU va_S.rf (fun _ h => h)⟩⟩ rfl rfl hl.1 rfl (lv_room (Nat.le_of_ble_eq_true rfl)) ld_L_fault_4 ⟨Nat.le_of_ble_eq_true rfl, Nat.le_of_ble_eq_true rfl⟩) hS (fun q h1 h => absurd h (Nat.not_le.mpr h1)) hA (fun r_1 u t H1 locs1 ht hvm hw _ hz1 hk1 hS => ?_)
  obtain rfl : r_1 = -1 := hw
  have hP : va_P D al_cl [(o, .inl (cA, 1, .inr (.inl g)))] H1 := (hP.sub (ws' := [(o, .inl (cA, 1, .inr (.inl g)))]) [1] rfl).kept (fun k q hk => hk1 q.1 ((hP.sub (ws' := [(o, .inl (cA, 1, .inr (.inl g)))]) [1] rfl) k q hk).lt (Nat.not_le.mpr ((hP.sub (ws' := [(o, .inl (cA, 1, .inr (.inl g)))]) [1] rfl) k q hk).lt))
  have hD := hD.sub (ws' := [(o, .inl (cA, 1, .inr (.inl g)))]) [1] (by decide) rfl
  refine lv_i2l (v := ((-1) : Int32).toInt64) hx hb ld_L_fault_7 rfl ?_
  refine va_last hx hb hK hP hD hS 0 0 rfl rfl (show vp_in (nI 0) 1 from vp_in_nI (by decide) (by decide)) ld_L_fault_8 (fun H locs hP hD hS => ?_)
  refine lv_goto (tgt := 15) hx hb ld_L_fault_9 (by decide) ?_
  refine lv_iconst (v := 0) hx hb ld_L_fault_15 (by decide) ?_
  exact W.iret (v := 0) hx hb hr (fun t ht hW => ⟨⟨0, _, rfl, ⟨rfl, pk_uLs⟩, by rw [ht]; exact hP, va_K.moved hW.alike hK, hD⟩, hS.F ht⟩) hS.2.2 ld_L_fault_16
set_option maxHeartbeats 4000000 in
set_option maxRecDepth 100000 in
theorem w_L_count_ok (l : Launch) (D : va_G) (q0 sz : Nat) (fs : List Value) (hf8 : fs[8]? = some (.int 0)) (hf9 : fs[9]? = some (.int 0)) (hf10 : fs[10]? = some (.int (-1))) (hf11 : fs[11]? = some (.int (-1))) (o : Nat) (cA : ClassId) (g : Nat → Int64) (a1 : Int32) (hok0 : ¬ a1 < 0) (hok5 : a1 ≤ 5) : Met l ly_L_count (lw_wH ly_L_count method_11_code 4 (some .int) [(0, 9, 12, 19)]) ({ frames := 6, cells := 0, slots := 0, locals := 160 }) (lw_PO D q0 fs o cA g sz [.ref q0, .int a1, .ref o]) (va_Qi (S := Nat → Int64) (fun r h => r = 0 ∧ h 0 = (0 : Int32).toInt64) (fun h U => va_P D al_cl [(o, .inl (cA, 1, .inr (.inl h)))] U.heap ∧ va_K D al_cl [(cA, .long)] U ∧ va_D (va_A [(q0, .inr (3, fs)), (o, .inl (cA, 1, .inr (.inl g)))] sz) [(o, .inl (cA, 1, .inr (.inl h)))]) (va_A [(q0, .inr (3, fs)), (o, .inl (cA, 1, .inr (.inl g)))] sz)) 0 0 (va_A [(q0, .inr (3, fs)), (o, .inl (cA, 1, .inr (.inl g)))] sz) := by
  refine va_MetW (cc := method_11_code) (maxL := 4) (ret := (some .int)) (hh := [(0, 9, 12, 19)]) (by decide) rfl ?_
  intro p e s m args below meth c s₁ B hml hv
  obtain ⟨rfl, hsz, hP, hK, hD0, hE⟩ := hv
  subst hsz
  have hx := B.exec
  have hb := B.bytes
  have hr := B.returns
  have hts := atoms_spec (ws := lw_wH ly_L_count method_11_code 4 (some .int) [(0, 9, 12, 19)]) B.pre
  have hown : s.vm.findClass "TableTongueLaw" = some m.cls := findClass_of_methodNamed B.named
  have hD := hD0.self (sz := s.heap.size)
  generalize hAe : va_A [(q0, .inr (3, fs)), (o, .inl (cA, 1, .inr (.inl g)))] s.heap.size = A at hD ⊢
  have hA : ∀ q : Nat, s.heap.size ≤ q → A q := fun q h => by rw [← hAe]; exact Or.inr h
  have hS : va_S A s.heap s.heap [] := va_S.rf
  have hl := lv_entry ([.ref q0, .int a1, .ref o]) (n := 4) (Nat.le_of_ble_eq_true rfl)
  rw [lg_entry_eq]
  generalize (lg_sl ([.ref q0, .int a1, .ref o]) ++ List.replicate (4 - (lg_sl ([.ref q0, .int a1, .ref o])).length) Slot.unset).toArray = ls at hl ⊢
  have hl : lv_has ls 4 [(0, .ref q0), (1, .int a1), (2, .ref o)] := hl
  refine lv_aload_n hx hb ld_L_count_0 rfl (lv_at hl 2 rfl) ?_
  refine lv_iconst (v := 0) hx hb ld_L_count_1 (by decide) ?_
  refine lv_aload_n hx hb ld_L_count_2 rfl (lv_at hl 0 rfl) ?_
  refine lv_iload_n hx hb ld_L_count_3 rfl (lv_at hl 1 rfl) ?_
  have hPc := hP.sub (ws' := [(q0, .inr (3, fs))]) [0] rfl
  have hKc := hK.sub (tys' := []) [] rfl
  refine va_calli (va_runV (As := [.int a1]) (rest := [.int 0, .ref o]) (C := "TableTongue") (Ts := lw_wH ly_L_count method_11_code 4 (some .int) [(0, 9, 12, 19)]) ⟨hx, hb, hml, hown, hts⟩ (r_X11_count l D q0 s.heap.size fs hf8 hf9 hf10 hf11 a1 hok0 hok5) ⟨callB_of 1 hts (lw_GoodInH (List.mem_cons_of_mem _ (lw_in 2937 (by decide +kernel) (by decide +kernel))) (by decide +kernel)) rfl rfl rfl (hts _ (List.mem_cons_of_mem _ (lw_in 394 (by decide +kernel) (by decide +kernel)))) (hts _ (List.mem_cons_of_mem _ (lw_in 2934 (by decide +kernel) (by decide +kernel)))) ⟨by decide, by decide, by decide +kernel⟩ ⟨Nat.le_of_ble_eq_true rfl, Nat.le_of_ble_eq_true rfl⟩, hts _ (List.mem_cons_of_mem _ (lw_in 2935 (by decide +kernel) (by decide +kernel))), hts _ (List.mem_cons_of_mem _ (lw_in 2936 (by decide +kernel) (by decide +kernel)))⟩ ⟨lw_PX.blind, va_recv hKc hPc (ci := 3) (q0 := 0) rfl rfl, fun U hU hW => ⟨rfl, by rw [hU], by rw [hU]; exact hPc, va_K.moved hW.alike hKc, hE.go hW hU va_S.rf (fun _ h => h)⟩⟩ rfl rfl hl.1 rfl (lv_room (Nat.le_of_ble_eq_true rfl)) ld_L_count_4 ⟨Nat.le_of_ble_eq_true rfl, Nat.le_of_ble_eq_true rfl⟩) hS (fun q h1 h => absurd h (Nat.not_le.mpr h1)) hA (fun r_1 u t H1 locs1 ht hvm hw _ hz1 hk1 hS => ?_)
  obtain rfl : r_1 = 0 := hw
  have hP : va_P D al_cl [(o, .inl (cA, 1, .inr (.inl g)))] H1 := (hP.sub (ws' := [(o, .inl (cA, 1, .inr (.inl g)))]) [1] rfl).kept (fun k q hk => hk1 q.1 ((hP.sub (ws' := [(o, .inl (cA, 1, .inr (.inl g)))]) [1] rfl) k q hk).lt (Nat.not_le.mpr ((hP.sub (ws' := [(o, .inl (cA, 1, .inr (.inl g)))]) [1] rfl) k q hk).lt))
  have hD := hD.sub (ws' := [(o, .inl (cA, 1, .inr (.inl g)))]) [1] (by decide) rfl
  refine lv_i2l (v := ((0) : Int32).toInt64) hx hb ld_L_count_7 rfl ?_
  refine va_last hx hb hK hP hD hS 0 0 rfl rfl (show vp_in (nI 0) 1 from vp_in_nI (by decide) (by decide)) ld_L_count_8 (fun H locs hP hD hS => ?_)
  refine lv_goto (tgt := 15) hx hb ld_L_count_9 (by decide) ?_
  refine lv_iconst (v := 0) hx hb ld_L_count_15 (by decide) ?_
  exact W.iret (v := 0) hx hb hr (fun t ht hW => ⟨⟨0, _, rfl, ⟨rfl, pk_uLs⟩, by rw [ht]; exact hP, va_K.moved hW.alike hK, hD⟩, hS.F ht⟩) hS.2.2 ld_L_count_16
