/-! ===== 45: the law's wrappers out of the class's contracts (by wip/whole2/law45.py) ===== -/
/-- a method's contract where it throws E: the world that it leaves -/
def wl_TX (l : Launch) (D : va_G) (ka : ev_KA) (y : MethodName) (wd : List Jvm.Cond) (fr lo : Nat) (P0 : wl_Y → va_W → Prop) (vs : List Value) (E : String) (P1 : wl_Y → va_W → Prop) (mc ms : Nat) : Prop :=
  ∀ (tys : wl_Y) (ws : va_W) (sz : Nat), P0 tys ws → vx_Met l y wd ({ frames := fr, cells := mc, slots := ms, locals := lo } : Jvm.Room) (wl_Pc D ka tys ws sz vs) (fun _ _ _ _ => False)
    (fun F st t => F = E ∧ (∃ (t2 : wl_Y) (w2 : va_W), P1 t2 w2 ∧ va_P D al_cl w2 t.heap ∧ va_K D al_cl t2 t ∧ va_D (va_A ws sz) w2) ∧ va_F (va_A ws sz) st t) mc ms (va_A ws sz)
section WLX
variable {p : Program} {l : Launch} {e : Env} {R : Room} {s : State} {m : MethodId} {args : Array Value} {below : List Frame} {meth : Method} {c : Code} {H : Heap} {locs : List Loc} {cells slots : Nat} {Q : State → Prop}
variable {D : va_G} {A : Nat → Prop} {ws wf : va_W} {ka : ev_KA} {pc : Nat} {ls : Array Slot} {cc : ByteArray} {tys : wl_Y}
/-- a virtual call over any list of words: it answers -/
theorem wl_callG {own C : String} {T : u_T} {N ci ic maxL mc ms nL q q0 n fr lo : Nat} {y : MethodName} {bytes : ByteArray} {ret : Option FieldType} {Ts : List Jvm.Cond} {P0 : wl_Y → va_W → Prop} {P1 : Option Value → wl_Y → va_W → Prop} {As rest fs : List Value}
    (S : CallFix p m c cc nL s args Ts own) (hsz : ls.size = nL) (hN : ∀ w ∈ al_WN, ev_isNest w = true → va_Nw w s) (hCF : ev_CF al_dfl al_tyf ka A s) (hE : wl_EE A s) (hA : ∀ q, s.heap.size ≤ q → A q)
    (hM : wl_M l D ka y (lw_w y bytes maxL ret) fr lo P0 (.ref q :: As) P1 mc ms) (h0 : P0 tys ws) (hq : ws[q0]? = some (q, .inr (ci, fs))) (hcl : al_cl[ci]? = some (C, T, N)) (hK : va_K D al_cl tys s) (hP : va_P D al_cl (ws ++ wf) H) (hD : va_D A (ws ++ wf)) (hS : va_S A s.heap H locs)
    (cw : CallW R s args own C ic y bytes maxL ret (lw_w y bytes maxL ret) ({ frames := fr, cells := mc, slots := ms, locals := lo } : Jvm.Room) mc ms n) (hn : As.length = n) (hR : cells + mc ≤ R.cells ∧ slots + ms ≤ R.slots) (hrest : (rest.map fun v => v.category).sum ≤ 8) (d4 : decode cc pc = .ok (.invokevirtual ic, 3))
    (kk : ∀ (v : Option Value) (t2 : wl_Y) (w2 : va_W) (H' : Heap) (locs' : List Loc), P1 v t2 w2 → va_K D al_cl t2 s → va_P D al_cl (w2 ++ wf) H' → va_D A (w2 ++ wf) → va_S A s.heap H' locs' → W p l e R s m args below meth c H' locs' (cells + mc) (slots + ms) Q (F0 m (pc + 3) ls (v.toList ++ rest))) : W p l e R s m args below meth c H locs cells slots Q (F0 m pc ls (As.reverse ++ .ref q :: rest)) := by
  have hMet := hM tys ws H.size h0
  have hrecv := va_recv hK hP.ef_l (q0 := q0) hcl hq
  exact wl_back (va_runV (As := As) (rest := rest) (C := C) S hMet cw ⟨wl_Pc.blind, hrecv, fun U hU hW => wl_pre hN hCF hE hA hK hP.ef_l hD.ev_l hS U hU hW⟩ rfl hn hsz rfl (lv_room hrest) d4 hR) rfl hP hD hS hA kk
/-- a virtual call over any list of words: it throws -/
theorem wl_callX {own C E : String} {T : u_T} {N ci ic maxL mc ms nL q q0 n fr lo : Nat} {y : MethodName} {bytes : ByteArray} {ret : Option FieldType} {Ts : List Jvm.Cond} {P0 P1 : wl_Y → va_W → Prop} {As rest fs : List Value}
    (S : CallFix p m c cc nL s args Ts own) (hsz : ls.size = nL) (hN : ∀ w ∈ al_WN, ev_isNest w = true → va_Nw w s) (hCF : ev_CF al_dfl al_tyf ka A s) (hE : wl_EE A s) (hA : ∀ q, s.heap.size ≤ q → A q)
    (hM : wl_TX l D ka y (lw_w y bytes maxL ret) fr lo P0 (.ref q :: As) E P1 mc ms) (h0 : P0 tys ws) (hq : ws[q0]? = some (q, .inr (ci, fs))) (hcl : al_cl[ci]? = some (C, T, N)) (hK : va_K D al_cl tys s) (hP : va_P D al_cl (ws ++ wf) H) (hD : va_D A (ws ++ wf)) (hS : va_S A s.heap H locs)
    (cw : CallW R s args own C ic y bytes maxL ret (lw_w y bytes maxL ret) ({ frames := fr, cells := mc, slots := ms, locals := lo } : Jvm.Room) mc ms n) (hn : As.length = n) (hR : cells + mc ≤ R.cells ∧ slots + ms ≤ R.slots) (hrest : (rest.map fun v => v.category).sum ≤ 8) (d4 : decode cc pc = .ok (.invokevirtual ic, 3))
    (kx : ∀ (ce : Cell) (q9 : Addr) (t2 : wl_Y) (w2 : va_W) (H' : Heap) (locs' : List Loc), P1 t2 w2 → va_K D al_cl t2 s → va_P D al_cl (w2 ++ wf) H' → va_D A (w2 ++ wf) → va_S A s.heap H' locs' → H'[q9]? = some ce → ce.vm = .none → s.vm.findClass E = some ce.cls → vx_W p l e R s m args below meth c H' locs' (cells + mc) (slots + ms) Q (F0 m pc ls rest) q9) : W p l e R s m args below meth c H locs cells slots Q (F0 m pc ls (As.reverse ++ .ref q :: rest)) := by
  have hMet := hM tys ws H.size h0
  have hrecv := va_recv hK hP.ef_l (q0 := q0) hcl hq
  have hr := vx_runV (l := l) (e := e) (R := R) (below := below) (meth := meth) (locs := locs) (As := As) (rest := rest) (C := C) (cells := cells) (slots := slots) (g := F0 m pc ls (As.reverse ++ .ref q :: rest)) S hMet cw ⟨wl_Pc.blind, hrecv, fun U hU hW => wl_pre hN hCF hE hA hK hP.ef_l hD.ev_l hS U hU hW⟩ rfl hn hsz rfl (lv_room hrest) d4 hR
  intro T hT X
  rcases hr T hT X with ⟨v, st₀, t, T', L, h0, X', hL, e1, e2, hf, st⟩ | ⟨q9, st₀, t, T', L, F, ce, h0, X', hL, e1, e2, ⟨rfl, ⟨t2, w2, g1, g3, g4, g5⟩, hz, hk⟩, hce, hcv, hcl, st⟩
  · exact hf.elim
  · rw [h0, ← e1] at hz hk
    rw [← e1] at g3 hce
    have hvm : s.vm.Alike t.vm := by rw [← e2]; exact X'.warmed.alike
    obtain ⟨k1, k2, k3⟩ := wl_join rfl hP hD hS hA hz hk g3 g5 hL
    obtain ⟨t3, a1, b1⟩ := kx ce q9 t2 w2 T'.heap (locs ++ L) g1 (va_K.moved hvm.symm g4) k1 k2 k3 hce hcv hcl T' rfl X'
    exact ⟨t3, st.trans a1, b1⟩
end WLX
theorem ld_L_function_8 : decode method_5_code 8 = .ok (.i2l, 1) := by decide +kernel
theorem ld_L_function_9 : decode method_5_code 9 = .ok (.lastore, 1) := by decide +kernel
theorem ld_L_function_10 : decode method_5_code 10 = .ok (.goto 7, 3) := by decide +kernel
theorem ld_L_function_17 : decode method_5_code 17 = .ok (.iconst 0, 1) := by decide +kernel
theorem ld_L_function_18 : decode method_5_code 18 = .ok (.ireturn, 1) := by decide +kernel
theorem ld_L_load_4 : decode method_6_code 4 = .ok (.goto 6, 3) := by decide +kernel
theorem ld_L_load_10 : decode method_6_code 10 = .ok (.iconst 0, 1) := by decide +kernel
theorem ld_L_load_11 : decode method_6_code 11 = .ok (.ireturn, 1) := by decide +kernel
theorem ld_L_run_7 : decode method_7_code 7 = .ok (.i2l, 1) := by decide +kernel
theorem ld_L_run_8 : decode method_7_code 8 = .ok (.lastore, 1) := by decide +kernel
theorem ld_L_run_9 : decode method_7_code 9 = .ok (.goto 9, 3) := by decide +kernel
theorem ld_L_run_18 : decode method_7_code 18 = .ok (.iconst 0, 1) := by decide +kernel
theorem ld_L_run_19 : decode method_7_code 19 = .ok (.ireturn, 1) := by decide +kernel
theorem ld_L_run_15 : decode method_7_code 15 = .ok (.astore_n 3, 1) := by decide +kernel
theorem ld_L_run_16 : decode method_7_code 16 = .ok (.iconst 2, 1) := by decide +kernel
theorem ld_L_run_17 : decode method_7_code 17 = .ok (.ireturn, 1) := by decide +kernel
theorem ld_L_result_8 : decode method_8_code 8 = .ok (.lastore, 1) := by decide +kernel
theorem ld_L_result_9 : decode method_8_code 9 = .ok (.goto 7, 3) := by decide +kernel
theorem ld_L_result_16 : decode method_8_code 16 = .ok (.iconst 0, 1) := by decide +kernel
theorem ld_L_result_17 : decode method_8_code 17 = .ok (.ireturn, 1) := by decide +kernel
theorem ld_L_resultByte_8 : decode method_9_code 8 = .ok (.i2l, 1) := by decide +kernel
theorem ld_L_resultByte_9 : decode method_9_code 9 = .ok (.lastore, 1) := by decide +kernel
theorem ld_L_resultByte_10 : decode method_9_code 10 = .ok (.goto 7, 3) := by decide +kernel
theorem ld_L_resultByte_17 : decode method_9_code 17 = .ok (.iconst 0, 1) := by decide +kernel
theorem ld_L_resultByte_18 : decode method_9_code 18 = .ok (.ireturn, 1) := by decide +kernel
theorem ld_L_output_7 : decode method_10_code 7 = .ok (.i2l, 1) := by decide +kernel
theorem ld_L_output_8 : decode method_10_code 8 = .ok (.lastore, 1) := by decide +kernel
theorem ld_L_output_9 : decode method_10_code 9 = .ok (.goto 6, 3) := by decide +kernel
theorem ld_L_output_15 : decode method_10_code 15 = .ok (.iconst 0, 1) := by decide +kernel
theorem ld_L_output_16 : decode method_10_code 16 = .ok (.ireturn, 1) := by decide +kernel
theorem ld_L_object_8 : decode method_12_code 8 = .ok (.i2l, 1) := by decide +kernel
theorem ld_L_object_9 : decode method_12_code 9 = .ok (.lastore, 1) := by decide +kernel
theorem ld_L_object_10 : decode method_12_code 10 = .ok (.goto 7, 3) := by decide +kernel
theorem ld_L_object_17 : decode method_12_code 17 = .ok (.iconst 0, 1) := by decide +kernel
theorem ld_L_object_18 : decode method_12_code 18 = .ok (.ireturn, 1) := by decide +kernel
theorem ld_L_place_10 : decode method_13_code 10 = .ok (.lastore, 1) := by decide +kernel
theorem ld_L_place_11 : decode method_13_code 11 = .ok (.goto 7, 3) := by decide +kernel
theorem ld_L_place_18 : decode method_13_code 18 = .ok (.iconst 0, 1) := by decide +kernel
theorem ld_L_place_19 : decode method_13_code 19 = .ok (.ireturn, 1) := by decide +kernel
set_option maxHeartbeats 4000000 in
set_option maxRecDepth 100000 in
theorem ww_feed_ok {l : Launch} {D : va_G} {ka : ev_KA} {x0 : Nat} {KX K1 : Nat → wl_Y → va_W → Prop} {mc ms : Nat} (hRc : wl_Rc 3 KX) {r : Int32} (a1 : Int32) (a2 : Int64) (hM : wl_M l D ka ly_X11_feed (lw_w ly_X11_feed prog_1_method_2_code 5 (some .int)) 1900 80000 (KX x0) [.ref x0, .int a1, .long a2] (fun v t w => v = some (.int r) ∧ K1 x0 t w) mc ms) : wl_Wc l D ka ly_L_feed (lw_wH ly_L_feed method_3_code 6 (some .int) [(0, 11, 14, 13)]) x0 KX K1 [.int a1, .long a2] 0 r.toInt64 mc ms := by
  intro o cO h tys ws sz hW0
  obtain ⟨tys, ws, rfl, rfl, hK0⟩ := hW0
  obtain ⟨q0, fs, hq⟩ := hRc _ _ _ hK0
  show Met l ly_L_feed (lw_wH ly_L_feed method_3_code 6 (some .int) [(0, 11, 14, 13)]) _ (wl_Pc D ka _ _ sz [.ref x0, .int a1, .long a2, .ref o]) _ mc ms _
  refine va_MetW (cc := method_3_code) (maxL := 6) (ret := (some .int)) (hh := [(0, 11, 14, 13)]) (by decide) rfl ?_
  intro p e s m args below meth c s₁ B hml hv
  obtain ⟨rfl, hsz, hP, hK, hD0, hN, hCF, hE⟩ := hv
  subst hsz
  have hx := B.exec
  have hb := B.bytes
  have hr := B.returns
  have hts := atoms_spec (ws := lw_wH ly_L_feed method_3_code 6 (some .int) [(0, 11, 14, 13)]) B.pre
  have hown : s.vm.findClass "TableTongueLaw" = some m.cls := findClass_of_methodNamed B.named
  have hD := hD0.self (sz := s.heap.size)
  generalize hAe : va_A (wl_o o cO h :: ws) s.heap.size = A at hD hCF hE ⊢
  have hA : ∀ q : Nat, s.heap.size ≤ q → A q := fun q h => by rw [← hAe]; exact Or.inr h
  have hS : va_S A s.heap s.heap [] := va_S.rf
  have hP1 : va_P D al_cl (ws ++ [wl_o o cO h]) s.heap := va_P.comm (a := [wl_o o cO h]) hP
  have hD1 : va_D A (ws ++ [wl_o o cO h]) := va_D.comm (a := [wl_o o cO h]) hD
  obtain ⟨hKo, hKx⟩ := wl_K_cons hK
  have hl := lv_entry ([.ref x0, .int a1, .long a2, .ref o]) (n := 6) (Nat.le_of_ble_eq_true rfl)
  rw [lg_entry_eq]
  generalize (lg_sl ([.ref x0, .int a1, .long a2, .ref o]) ++ List.replicate (6 - (lg_sl ([.ref x0, .int a1, .long a2, .ref o])).length) Slot.unset).toArray = ls at hl ⊢
  have hl : lv_has ls 6 [(0, .ref x0), (1, .int a1), (2, .long a2), (4, .ref o)] := hl
  refine lv_aload hx hb ld_L_feed_0 (lv_at hl 3 rfl) ?_
  refine lv_iconst (v := 0) hx hb ld_L_feed_2 (by decide) ?_
  refine lv_aload_n hx hb ld_L_feed_3 rfl (lv_at hl 0 rfl) ?_
  refine lv_iload_n hx hb ld_L_feed_4 rfl (lv_at hl 1 rfl) ?_
  refine lv_lload_n hx hb ld_L_feed_5 rfl (lv_at hl 2 rfl) ?_
  refine wl_callG (As := [.int a1, .long a2]) (rest := [.int 0, .ref o]) (C := "TableTongue") (own := "TableTongueLaw") (Ts := lw_wH ly_L_feed method_3_code 6 (some .int) [(0, 11, 14, 13)]) (wf := [wl_o o cO h]) ⟨hx, hb, hml, hown, hts⟩ hl.1 hN hCF hE hA hM hK0 hq rfl hKx hP1 hD1 hS ⟨callB_of 2 hts (lw_GoodInH (List.mem_cons_of_mem _ (lw_in 2103 (by decide +kernel) (by decide +kernel))) (by decide +kernel)) rfl rfl rfl (hts _ (List.mem_cons_of_mem _ (lw_in 394 (by decide +kernel) (by decide +kernel)))) (hts _ (List.mem_cons_of_mem _ (lw_in 2100 (by decide +kernel) (by decide +kernel)))) ⟨by decide, by decide, by decide +kernel⟩ ⟨Nat.le_of_ble_eq_true rfl, Nat.le_of_ble_eq_true rfl⟩, hts _ (List.mem_cons_of_mem _ (lw_in 2101 (by decide +kernel) (by decide +kernel))), hts _ (List.mem_cons_of_mem _ (lw_in 2102 (by decide +kernel) (by decide +kernel)))⟩ rfl ⟨by show 0 + mc ≤ mc; omega, by show 0 + ms ≤ ms; omega⟩ (Nat.le_of_ble_eq_true rfl) ld_L_feed_6 (fun v t3 w3 H locs hv hK3 hP3 hD3 hS => ?_)
  obtain ⟨rfl, hK1⟩ := hv
  refine lv_i2l (v := (r : Int32).toInt64) hx hb ld_L_feed_9 rfl ?_
  have hP4 : va_P D al_cl ([wl_o o cO h] ++ w3) H := hP3.comm
  have hD4 : va_D A ([wl_o o cO h] ++ w3) := hD3.comm
  refine va_last hx hb hKo hP4 hD4 hS 0 0 rfl rfl (show vp_in (nI 0) 1 from vp_in_nI (by decide) (by decide)) ld_L_feed_10 (fun H locs hP5 hD5 hS => ?_)
  refine lv_goto (tgt := 18) hx hb ld_L_feed_11 (by decide) ?_
  refine lv_iconst (v := 0) hx hb ld_L_feed_18 (by decide) ?_
  exact W.widen (by omega) (by omega) (W.iret (v := 0) hx hb hr (fun t ht hW => ⟨⟨_, (cO, .long) :: t3, wl_o o cO (vp_updL h (0 : Int32).toNatClampNeg (r.toInt64)) :: w3, rfl, ⟨vp_updL h (0 : Int32).toNatClampNeg (r.toInt64), rfl, fun _ => pk_uLs, t3, w3, rfl, rfl, hK1⟩, by rw [ht]; exact hP5, va_K.moved hW.alike (wl_K_app hKo hK3), by rw [hAe]; exact hD5⟩, by rw [hAe]; exact hS.F ht⟩) hS.2.2 ld_L_feed_19)
set_option maxHeartbeats 4000000 in
set_option maxRecDepth 100000 in
theorem ww_feed_bad {l : Launch} {D : va_G} {ka : ev_KA} {x0 : Nat} {KX K1 : Nat → wl_Y → va_W → Prop} {mc ms : Nat} (hRc : wl_Rc 3 KX) (a1 : Int32) (a2 : Int64) (hM : wl_TX l D ka ly_X11_feed (lw_w ly_X11_feed prog_1_method_2_code 5 (some .int)) 1900 80000 (KX x0) [.ref x0, .int a1, .long a2] "java/lang/IllegalArgumentException" (K1 x0) mc ms) : wl_Wc l D ka ly_L_feed (lw_wH ly_L_feed method_3_code 6 (some .int) [(0, 11, 14, 13)]) x0 KX K1 [.int a1, .long a2] 1 0 mc ms := by
  intro o cO h tys ws sz hW0
  obtain ⟨tys, ws, rfl, rfl, hK0⟩ := hW0
  obtain ⟨q0, fs, hq⟩ := hRc _ _ _ hK0
  show Met l ly_L_feed (lw_wH ly_L_feed method_3_code 6 (some .int) [(0, 11, 14, 13)]) _ (wl_Pc D ka _ _ sz [.ref x0, .int a1, .long a2, .ref o]) _ mc ms _
  refine va_MetW (cc := method_3_code) (maxL := 6) (ret := (some .int)) (hh := [(0, 11, 14, 13)]) (by decide) rfl ?_
  intro p e s m args below meth c s₁ B hml hv
  obtain ⟨rfl, hsz, hP, hK, hD0, hN, hCF, hE⟩ := hv
  subst hsz
  have hx := B.exec
  have hb := B.bytes
  have hr := B.returns
  have hts := atoms_spec (ws := lw_wH ly_L_feed method_3_code 6 (some .int) [(0, 11, 14, 13)]) B.pre
  have hown : s.vm.findClass "TableTongueLaw" = some m.cls := findClass_of_methodNamed B.named
  have htab := vx_table (x := ly_L_feed) B (hts _ List.mem_cons_self)
  have hD := hD0.self (sz := s.heap.size)
  generalize hAe : va_A (wl_o o cO h :: ws) s.heap.size = A at hD hCF hE ⊢
  have hA : ∀ q : Nat, s.heap.size ≤ q → A q := fun q h => by rw [← hAe]; exact Or.inr h
  have hS : va_S A s.heap s.heap [] := va_S.rf
  have hP1 : va_P D al_cl (ws ++ [wl_o o cO h]) s.heap := va_P.comm (a := [wl_o o cO h]) hP
  have hD1 : va_D A (ws ++ [wl_o o cO h]) := va_D.comm (a := [wl_o o cO h]) hD
  obtain ⟨hKo, hKx⟩ := wl_K_cons hK
  have hl := lv_entry ([.ref x0, .int a1, .long a2, .ref o]) (n := 6) (Nat.le_of_ble_eq_true rfl)
  rw [lg_entry_eq]
  generalize (lg_sl ([.ref x0, .int a1, .long a2, .ref o]) ++ List.replicate (6 - (lg_sl ([.ref x0, .int a1, .long a2, .ref o])).length) Slot.unset).toArray = ls at hl ⊢
  have hl : lv_has ls 6 [(0, .ref x0), (1, .int a1), (2, .long a2), (4, .ref o)] := hl
  refine lv_aload hx hb ld_L_feed_0 (lv_at hl 3 rfl) ?_
  refine lv_iconst (v := 0) hx hb ld_L_feed_2 (by decide) ?_
  refine lv_aload_n hx hb ld_L_feed_3 rfl (lv_at hl 0 rfl) ?_
  refine lv_iload_n hx hb ld_L_feed_4 rfl (lv_at hl 1 rfl) ?_
  refine lv_lload_n hx hb ld_L_feed_5 rfl (lv_at hl 2 rfl) ?_
  refine wl_callX (As := [.int a1, .long a2]) (rest := [.int 0, .ref o]) (C := "TableTongue") (own := "TableTongueLaw") (Ts := lw_wH ly_L_feed method_3_code 6 (some .int) [(0, 11, 14, 13)]) (wf := [wl_o o cO h]) ⟨hx, hb, hml, hown, hts⟩ hl.1 hN hCF hE hA hM hK0 hq rfl hKx hP1 hD1 hS ⟨callB_of 2 hts (lw_GoodInH (List.mem_cons_of_mem _ (lw_in 2103 (by decide +kernel) (by decide +kernel))) (by decide +kernel)) rfl rfl rfl (hts _ (List.mem_cons_of_mem _ (lw_in 394 (by decide +kernel) (by decide +kernel)))) (hts _ (List.mem_cons_of_mem _ (lw_in 2100 (by decide +kernel) (by decide +kernel)))) ⟨by decide, by decide, by decide +kernel⟩ ⟨Nat.le_of_ble_eq_true rfl, Nat.le_of_ble_eq_true rfl⟩, hts _ (List.mem_cons_of_mem _ (lw_in 2101 (by decide +kernel) (by decide +kernel))), hts _ (List.mem_cons_of_mem _ (lw_in 2102 (by decide +kernel) (by decide +kernel)))⟩ rfl ⟨by show 0 + mc ≤ mc; omega, by show 0 + ms ≤ ms; omega⟩ (Nat.le_of_ble_eq_true rfl) ld_L_feed_6 (fun ce q9 t3 w3 H locs hK1 hK3 hP3 hD3 hS hce hcv hcl => ?_)
  refine vx_catch (own := "TableTongueLaw") (name := "java/lang/IllegalArgumentException") hown [] ⟨0, 11, 14, 13⟩ [] (htab.trans rfl) (fun z hz => nomatch hz) (by decide) (by decide) (hts _ (List.mem_cons_of_mem _ (lw_in 2099 (by decide +kernel) (by decide +kernel)))) (va_Nw.use rfl (hE.1.2.2 _ (List.mem_of_getElem? (i := 1119) (by decide +kernel)) rfl)) hce hcv hcl ?_
  refine lv_astore (lv' := [(5, .ref q9), (0, .ref x0), (1, .int a1), (2, .long a2), (4, .ref o)]) hx hb ld_L_feed_14 hl (by decide) rfl (fun ls hl => ?_)
  refine lv_iconst (v := 1) hx hb ld_L_feed_16 (by decide) ?_
  exact W.widen (by omega) (by omega) (W.iret (v := 1) hx hb hr (fun t ht hW => ⟨⟨_, (cO, .long) :: t3, wl_o o cO h :: w3, rfl, ⟨h, rfl, fun z => absurd z (by decide), t3, w3, rfl, rfl, hK1⟩, by rw [ht]; exact hP3.comm, va_K.moved hW.alike (wl_K_app hKo hK3), by rw [hAe]; exact hD3.comm⟩, by rw [hAe]; exact hS.F ht⟩) hS.2.2 ld_L_feed_17)
set_option maxHeartbeats 4000000 in
set_option maxRecDepth 100000 in
theorem ww_fault_ok {l : Launch} {D : va_G} {ka : ev_KA} {x0 : Nat} {KX K1 : Nat → wl_Y → va_W → Prop} {mc ms : Nat} (hRc : wl_Rc 3 KX) {r : Int32} (a1 : Int32) (hM : wl_M l D ka ly_X11_fault (lw_w ly_X11_fault prog_1_method_5_code 2 (some .int)) 1900 80000 (KX x0) [.ref x0, .int a1] (fun v t w => v = some (.int r) ∧ K1 x0 t w) mc ms) : wl_Wc l D ka ly_L_fault (lw_wH ly_L_fault method_4_code 4 (some .int) [(0, 9, 12, 19)]) x0 KX K1 [.int a1] 0 r.toInt64 mc ms := by
  intro o cO h tys ws sz hW0
  obtain ⟨tys, ws, rfl, rfl, hK0⟩ := hW0
  obtain ⟨q0, fs, hq⟩ := hRc _ _ _ hK0
  show Met l ly_L_fault (lw_wH ly_L_fault method_4_code 4 (some .int) [(0, 9, 12, 19)]) _ (wl_Pc D ka _ _ sz [.ref x0, .int a1, .ref o]) _ mc ms _
  refine va_MetW (cc := method_4_code) (maxL := 4) (ret := (some .int)) (hh := [(0, 9, 12, 19)]) (by decide) rfl ?_
  intro p e s m args below meth c s₁ B hml hv
  obtain ⟨rfl, hsz, hP, hK, hD0, hN, hCF, hE⟩ := hv
  subst hsz
  have hx := B.exec
  have hb := B.bytes
  have hr := B.returns
  have hts := atoms_spec (ws := lw_wH ly_L_fault method_4_code 4 (some .int) [(0, 9, 12, 19)]) B.pre
  have hown : s.vm.findClass "TableTongueLaw" = some m.cls := findClass_of_methodNamed B.named
  have hD := hD0.self (sz := s.heap.size)
  generalize hAe : va_A (wl_o o cO h :: ws) s.heap.size = A at hD hCF hE ⊢
  have hA : ∀ q : Nat, s.heap.size ≤ q → A q := fun q h => by rw [← hAe]; exact Or.inr h
  have hS : va_S A s.heap s.heap [] := va_S.rf
  have hP1 : va_P D al_cl (ws ++ [wl_o o cO h]) s.heap := va_P.comm (a := [wl_o o cO h]) hP
  have hD1 : va_D A (ws ++ [wl_o o cO h]) := va_D.comm (a := [wl_o o cO h]) hD
  obtain ⟨hKo, hKx⟩ := wl_K_cons hK
  have hl := lv_entry ([.ref x0, .int a1, .ref o]) (n := 4) (Nat.le_of_ble_eq_true rfl)
  rw [lg_entry_eq]
  generalize (lg_sl ([.ref x0, .int a1, .ref o]) ++ List.replicate (4 - (lg_sl ([.ref x0, .int a1, .ref o])).length) Slot.unset).toArray = ls at hl ⊢
  have hl : lv_has ls 4 [(0, .ref x0), (1, .int a1), (2, .ref o)] := hl
  refine lv_aload_n hx hb ld_L_fault_0 rfl (lv_at hl 2 rfl) ?_
  refine lv_iconst (v := 0) hx hb ld_L_fault_1 (by decide) ?_
  refine lv_aload_n hx hb ld_L_fault_2 rfl (lv_at hl 0 rfl) ?_
  refine lv_iload_n hx hb ld_L_fault_3 rfl (lv_at hl 1 rfl) ?_
  refine wl_callG (As := [.int a1]) (rest := [.int 0, .ref o]) (C := "TableTongue") (own := "TableTongueLaw") (Ts := lw_wH ly_L_fault method_4_code 4 (some .int) [(0, 9, 12, 19)]) (wf := [wl_o o cO h]) ⟨hx, hb, hml, hown, hts⟩ hl.1 hN hCF hE hA hM hK0 hq rfl hKx hP1 hD1 hS ⟨callB_of 1 hts (lw_GoodInH (List.mem_cons_of_mem _ (lw_in 2122 (by decide +kernel) (by decide +kernel))) (by decide +kernel)) rfl rfl rfl (hts _ (List.mem_cons_of_mem _ (lw_in 394 (by decide +kernel) (by decide +kernel)))) (hts _ (List.mem_cons_of_mem _ (lw_in 2119 (by decide +kernel) (by decide +kernel)))) ⟨by decide, by decide, by decide +kernel⟩ ⟨Nat.le_of_ble_eq_true rfl, Nat.le_of_ble_eq_true rfl⟩, hts _ (List.mem_cons_of_mem _ (lw_in 2120 (by decide +kernel) (by decide +kernel))), hts _ (List.mem_cons_of_mem _ (lw_in 2121 (by decide +kernel) (by decide +kernel)))⟩ rfl ⟨by show 0 + mc ≤ mc; omega, by show 0 + ms ≤ ms; omega⟩ (Nat.le_of_ble_eq_true rfl) ld_L_fault_4 (fun v t3 w3 H locs hv hK3 hP3 hD3 hS => ?_)
  obtain ⟨rfl, hK1⟩ := hv
  refine lv_i2l (v := (r : Int32).toInt64) hx hb ld_L_fault_7 rfl ?_
  have hP4 : va_P D al_cl ([wl_o o cO h] ++ w3) H := hP3.comm
  have hD4 : va_D A ([wl_o o cO h] ++ w3) := hD3.comm
  refine va_last hx hb hKo hP4 hD4 hS 0 0 rfl rfl (show vp_in (nI 0) 1 from vp_in_nI (by decide) (by decide)) ld_L_fault_8 (fun H locs hP5 hD5 hS => ?_)
  refine lv_goto (tgt := 15) hx hb ld_L_fault_9 (by decide) ?_
  refine lv_iconst (v := 0) hx hb ld_L_fault_15 (by decide) ?_
  exact W.widen (by omega) (by omega) (W.iret (v := 0) hx hb hr (fun t ht hW => ⟨⟨_, (cO, .long) :: t3, wl_o o cO (vp_updL h (0 : Int32).toNatClampNeg (r.toInt64)) :: w3, rfl, ⟨vp_updL h (0 : Int32).toNatClampNeg (r.toInt64), rfl, fun _ => pk_uLs, t3, w3, rfl, rfl, hK1⟩, by rw [ht]; exact hP5, va_K.moved hW.alike (wl_K_app hKo hK3), by rw [hAe]; exact hD5⟩, by rw [hAe]; exact hS.F ht⟩) hS.2.2 ld_L_fault_16)
set_option maxHeartbeats 4000000 in
set_option maxRecDepth 100000 in
theorem ww_fault_bad {l : Launch} {D : va_G} {ka : ev_KA} {x0 : Nat} {KX K1 : Nat → wl_Y → va_W → Prop} {mc ms : Nat} (hRc : wl_Rc 3 KX) (a1 : Int32) (hM : wl_TX l D ka ly_X11_fault (lw_w ly_X11_fault prog_1_method_5_code 2 (some .int)) 1900 80000 (KX x0) [.ref x0, .int a1] "java/lang/IndexOutOfBoundsException" (K1 x0) mc ms) : wl_Wc l D ka ly_L_fault (lw_wH ly_L_fault method_4_code 4 (some .int) [(0, 9, 12, 19)]) x0 KX K1 [.int a1] 1 0 mc ms := by
  intro o cO h tys ws sz hW0
  obtain ⟨tys, ws, rfl, rfl, hK0⟩ := hW0
  obtain ⟨q0, fs, hq⟩ := hRc _ _ _ hK0
  show Met l ly_L_fault (lw_wH ly_L_fault method_4_code 4 (some .int) [(0, 9, 12, 19)]) _ (wl_Pc D ka _ _ sz [.ref x0, .int a1, .ref o]) _ mc ms _
  refine va_MetW (cc := method_4_code) (maxL := 4) (ret := (some .int)) (hh := [(0, 9, 12, 19)]) (by decide) rfl ?_
  intro p e s m args below meth c s₁ B hml hv
  obtain ⟨rfl, hsz, hP, hK, hD0, hN, hCF, hE⟩ := hv
  subst hsz
  have hx := B.exec
  have hb := B.bytes
  have hr := B.returns
  have hts := atoms_spec (ws := lw_wH ly_L_fault method_4_code 4 (some .int) [(0, 9, 12, 19)]) B.pre
  have hown : s.vm.findClass "TableTongueLaw" = some m.cls := findClass_of_methodNamed B.named
  have htab := vx_table (x := ly_L_fault) B (hts _ List.mem_cons_self)
  have hD := hD0.self (sz := s.heap.size)
  generalize hAe : va_A (wl_o o cO h :: ws) s.heap.size = A at hD hCF hE ⊢
  have hA : ∀ q : Nat, s.heap.size ≤ q → A q := fun q h => by rw [← hAe]; exact Or.inr h
  have hS : va_S A s.heap s.heap [] := va_S.rf
  have hP1 : va_P D al_cl (ws ++ [wl_o o cO h]) s.heap := va_P.comm (a := [wl_o o cO h]) hP
  have hD1 : va_D A (ws ++ [wl_o o cO h]) := va_D.comm (a := [wl_o o cO h]) hD
  obtain ⟨hKo, hKx⟩ := wl_K_cons hK
  have hl := lv_entry ([.ref x0, .int a1, .ref o]) (n := 4) (Nat.le_of_ble_eq_true rfl)
  rw [lg_entry_eq]
  generalize (lg_sl ([.ref x0, .int a1, .ref o]) ++ List.replicate (4 - (lg_sl ([.ref x0, .int a1, .ref o])).length) Slot.unset).toArray = ls at hl ⊢
  have hl : lv_has ls 4 [(0, .ref x0), (1, .int a1), (2, .ref o)] := hl
  refine lv_aload_n hx hb ld_L_fault_0 rfl (lv_at hl 2 rfl) ?_
  refine lv_iconst (v := 0) hx hb ld_L_fault_1 (by decide) ?_
  refine lv_aload_n hx hb ld_L_fault_2 rfl (lv_at hl 0 rfl) ?_
  refine lv_iload_n hx hb ld_L_fault_3 rfl (lv_at hl 1 rfl) ?_
  refine wl_callX (As := [.int a1]) (rest := [.int 0, .ref o]) (C := "TableTongue") (own := "TableTongueLaw") (Ts := lw_wH ly_L_fault method_4_code 4 (some .int) [(0, 9, 12, 19)]) (wf := [wl_o o cO h]) ⟨hx, hb, hml, hown, hts⟩ hl.1 hN hCF hE hA hM hK0 hq rfl hKx hP1 hD1 hS ⟨callB_of 1 hts (lw_GoodInH (List.mem_cons_of_mem _ (lw_in 2122 (by decide +kernel) (by decide +kernel))) (by decide +kernel)) rfl rfl rfl (hts _ (List.mem_cons_of_mem _ (lw_in 394 (by decide +kernel) (by decide +kernel)))) (hts _ (List.mem_cons_of_mem _ (lw_in 2119 (by decide +kernel) (by decide +kernel)))) ⟨by decide, by decide, by decide +kernel⟩ ⟨Nat.le_of_ble_eq_true rfl, Nat.le_of_ble_eq_true rfl⟩, hts _ (List.mem_cons_of_mem _ (lw_in 2120 (by decide +kernel) (by decide +kernel))), hts _ (List.mem_cons_of_mem _ (lw_in 2121 (by decide +kernel) (by decide +kernel)))⟩ rfl ⟨by show 0 + mc ≤ mc; omega, by show 0 + ms ≤ ms; omega⟩ (Nat.le_of_ble_eq_true rfl) ld_L_fault_4 (fun ce q9 t3 w3 H locs hK1 hK3 hP3 hD3 hS hce hcv hcl => ?_)
  refine vx_catch (own := "TableTongueLaw") (name := "java/lang/IndexOutOfBoundsException") hown [] ⟨0, 9, 12, 19⟩ [] (htab.trans rfl) (fun z hz => nomatch hz) (by decide) (by decide) (hts _ (List.mem_cons_of_mem _ (lw_in 2118 (by decide +kernel) (by decide +kernel)))) (va_Nw.use rfl (hE.1.2.2 _ (List.mem_of_getElem? (i := 2125) (by decide +kernel)) rfl)) hce hcv hcl ?_
  refine lv_astore_n (lv' := [(3, .ref q9), (0, .ref x0), (1, .int a1), (2, .ref o)]) hx hb ld_L_fault_12 rfl hl (by decide) rfl (fun ls hl => ?_)
  refine lv_iconst (v := 1) hx hb ld_L_fault_13 (by decide) ?_
  exact W.widen (by omega) (by omega) (W.iret (v := 1) hx hb hr (fun t ht hW => ⟨⟨_, (cO, .long) :: t3, wl_o o cO h :: w3, rfl, ⟨h, rfl, fun z => absurd z (by decide), t3, w3, rfl, rfl, hK1⟩, by rw [ht]; exact hP3.comm, va_K.moved hW.alike (wl_K_app hKo hK3), by rw [hAe]; exact hD3.comm⟩, by rw [hAe]; exact hS.F ht⟩) hS.2.2 ld_L_fault_14)
set_option maxHeartbeats 4000000 in
set_option maxRecDepth 100000 in
theorem ww_function_ok {l : Launch} {D : va_G} {ka : ev_KA} {x0 : Nat} {KX K1 : Nat → wl_Y → va_W → Prop} {mc ms : Nat} (hRc : wl_Rc 3 KX) {r : Int32} (a1 : Int32) (a2 : Int32) (hM : wl_M l D ka ly_X11_function (lw_w ly_X11_function prog_1_method_6_code 3 (some .int)) 1900 80000 (KX x0) [.ref x0, .int a1, .int a2] (fun v t w => v = some (.int r) ∧ K1 x0 t w) mc ms) : wl_Wc l D ka ly_L_function (lw_wH ly_L_function method_5_code 5 (some .int) [(0, 10, 13, 19)]) x0 KX K1 [.int a1, .int a2] 0 r.toInt64 mc ms := by
  intro o cO h tys ws sz hW0
  obtain ⟨tys, ws, rfl, rfl, hK0⟩ := hW0
  obtain ⟨q0, fs, hq⟩ := hRc _ _ _ hK0
  show Met l ly_L_function (lw_wH ly_L_function method_5_code 5 (some .int) [(0, 10, 13, 19)]) _ (wl_Pc D ka _ _ sz [.ref x0, .int a1, .int a2, .ref o]) _ mc ms _
  refine va_MetW (cc := method_5_code) (maxL := 5) (ret := (some .int)) (hh := [(0, 10, 13, 19)]) (by decide) rfl ?_
  intro p e s m args below meth c s₁ B hml hv
  obtain ⟨rfl, hsz, hP, hK, hD0, hN, hCF, hE⟩ := hv
  subst hsz
  have hx := B.exec
  have hb := B.bytes
  have hr := B.returns
  have hts := atoms_spec (ws := lw_wH ly_L_function method_5_code 5 (some .int) [(0, 10, 13, 19)]) B.pre
  have hown : s.vm.findClass "TableTongueLaw" = some m.cls := findClass_of_methodNamed B.named
  have hD := hD0.self (sz := s.heap.size)
  generalize hAe : va_A (wl_o o cO h :: ws) s.heap.size = A at hD hCF hE ⊢
  have hA : ∀ q : Nat, s.heap.size ≤ q → A q := fun q h => by rw [← hAe]; exact Or.inr h
  have hS : va_S A s.heap s.heap [] := va_S.rf
  have hP1 : va_P D al_cl (ws ++ [wl_o o cO h]) s.heap := va_P.comm (a := [wl_o o cO h]) hP
  have hD1 : va_D A (ws ++ [wl_o o cO h]) := va_D.comm (a := [wl_o o cO h]) hD
  obtain ⟨hKo, hKx⟩ := wl_K_cons hK
  have hl := lv_entry ([.ref x0, .int a1, .int a2, .ref o]) (n := 5) (Nat.le_of_ble_eq_true rfl)
  rw [lg_entry_eq]
  generalize (lg_sl ([.ref x0, .int a1, .int a2, .ref o]) ++ List.replicate (5 - (lg_sl ([.ref x0, .int a1, .int a2, .ref o])).length) Slot.unset).toArray = ls at hl ⊢
  have hl : lv_has ls 5 [(0, .ref x0), (1, .int a1), (2, .int a2), (3, .ref o)] := hl
  refine lv_aload_n hx hb ld_L_function_0 rfl (lv_at hl 3 rfl) ?_
  refine lv_iconst (v := 0) hx hb ld_L_function_1 (by decide) ?_
  refine lv_aload_n hx hb ld_L_function_2 rfl (lv_at hl 0 rfl) ?_
  refine lv_iload_n hx hb ld_L_function_3 rfl (lv_at hl 1 rfl) ?_
  refine lv_iload_n hx hb ld_L_function_4 rfl (lv_at hl 2 rfl) ?_
  refine wl_callG (As := [.int a1, .int a2]) (rest := [.int 0, .ref o]) (C := "TableTongue") (own := "TableTongueLaw") (Ts := lw_wH ly_L_function method_5_code 5 (some .int) [(0, 10, 13, 19)]) (wf := [wl_o o cO h]) ⟨hx, hb, hml, hown, hts⟩ hl.1 hN hCF hE hA hM hK0 hq rfl hKx hP1 hD1 hS ⟨callB_of 2 hts (lw_GoodInH (List.mem_cons_of_mem _ (lw_in 2144 (by decide +kernel) (by decide +kernel))) (by decide +kernel)) rfl rfl rfl (hts _ (List.mem_cons_of_mem _ (lw_in 394 (by decide +kernel) (by decide +kernel)))) (hts _ (List.mem_cons_of_mem _ (lw_in 2141 (by decide +kernel) (by decide +kernel)))) ⟨by decide, by decide, by decide +kernel⟩ ⟨Nat.le_of_ble_eq_true rfl, Nat.le_of_ble_eq_true rfl⟩, hts _ (List.mem_cons_of_mem _ (lw_in 2142 (by decide +kernel) (by decide +kernel))), hts _ (List.mem_cons_of_mem _ (lw_in 2143 (by decide +kernel) (by decide +kernel)))⟩ rfl ⟨by show 0 + mc ≤ mc; omega, by show 0 + ms ≤ ms; omega⟩ (Nat.le_of_ble_eq_true rfl) ld_L_function_5 (fun v t3 w3 H locs hv hK3 hP3 hD3 hS => ?_)
  obtain ⟨rfl, hK1⟩ := hv
  refine lv_i2l (v := (r : Int32).toInt64) hx hb ld_L_function_8 rfl ?_
  have hP4 : va_P D al_cl ([wl_o o cO h] ++ w3) H := hP3.comm
  have hD4 : va_D A ([wl_o o cO h] ++ w3) := hD3.comm
  refine va_last hx hb hKo hP4 hD4 hS 0 0 rfl rfl (show vp_in (nI 0) 1 from vp_in_nI (by decide) (by decide)) ld_L_function_9 (fun H locs hP5 hD5 hS => ?_)
  refine lv_goto (tgt := 17) hx hb ld_L_function_10 (by decide) ?_
  refine lv_iconst (v := 0) hx hb ld_L_function_17 (by decide) ?_
  exact W.widen (by omega) (by omega) (W.iret (v := 0) hx hb hr (fun t ht hW => ⟨⟨_, (cO, .long) :: t3, wl_o o cO (vp_updL h (0 : Int32).toNatClampNeg (r.toInt64)) :: w3, rfl, ⟨vp_updL h (0 : Int32).toNatClampNeg (r.toInt64), rfl, fun _ => pk_uLs, t3, w3, rfl, rfl, hK1⟩, by rw [ht]; exact hP5, va_K.moved hW.alike (wl_K_app hKo hK3), by rw [hAe]; exact hD5⟩, by rw [hAe]; exact hS.F ht⟩) hS.2.2 ld_L_function_18)
set_option maxHeartbeats 4000000 in
set_option maxRecDepth 100000 in
theorem ww_function_bad {l : Launch} {D : va_G} {ka : ev_KA} {x0 : Nat} {KX K1 : Nat → wl_Y → va_W → Prop} {mc ms : Nat} (hRc : wl_Rc 3 KX) (a1 : Int32) (a2 : Int32) (hM : wl_TX l D ka ly_X11_function (lw_w ly_X11_function prog_1_method_6_code 3 (some .int)) 1900 80000 (KX x0) [.ref x0, .int a1, .int a2] "java/lang/IndexOutOfBoundsException" (K1 x0) mc ms) : wl_Wc l D ka ly_L_function (lw_wH ly_L_function method_5_code 5 (some .int) [(0, 10, 13, 19)]) x0 KX K1 [.int a1, .int a2] 1 0 mc ms := by
  intro o cO h tys ws sz hW0
  obtain ⟨tys, ws, rfl, rfl, hK0⟩ := hW0
  obtain ⟨q0, fs, hq⟩ := hRc _ _ _ hK0
  show Met l ly_L_function (lw_wH ly_L_function method_5_code 5 (some .int) [(0, 10, 13, 19)]) _ (wl_Pc D ka _ _ sz [.ref x0, .int a1, .int a2, .ref o]) _ mc ms _
  refine va_MetW (cc := method_5_code) (maxL := 5) (ret := (some .int)) (hh := [(0, 10, 13, 19)]) (by decide) rfl ?_
  intro p e s m args below meth c s₁ B hml hv
  obtain ⟨rfl, hsz, hP, hK, hD0, hN, hCF, hE⟩ := hv
  subst hsz
  have hx := B.exec
  have hb := B.bytes
  have hr := B.returns
  have hts := atoms_spec (ws := lw_wH ly_L_function method_5_code 5 (some .int) [(0, 10, 13, 19)]) B.pre
  have hown : s.vm.findClass "TableTongueLaw" = some m.cls := findClass_of_methodNamed B.named
  have htab := vx_table (x := ly_L_function) B (hts _ List.mem_cons_self)
  have hD := hD0.self (sz := s.heap.size)
  generalize hAe : va_A (wl_o o cO h :: ws) s.heap.size = A at hD hCF hE ⊢
  have hA : ∀ q : Nat, s.heap.size ≤ q → A q := fun q h => by rw [← hAe]; exact Or.inr h
  have hS : va_S A s.heap s.heap [] := va_S.rf
  have hP1 : va_P D al_cl (ws ++ [wl_o o cO h]) s.heap := va_P.comm (a := [wl_o o cO h]) hP
  have hD1 : va_D A (ws ++ [wl_o o cO h]) := va_D.comm (a := [wl_o o cO h]) hD
  obtain ⟨hKo, hKx⟩ := wl_K_cons hK
  have hl := lv_entry ([.ref x0, .int a1, .int a2, .ref o]) (n := 5) (Nat.le_of_ble_eq_true rfl)
  rw [lg_entry_eq]
  generalize (lg_sl ([.ref x0, .int a1, .int a2, .ref o]) ++ List.replicate (5 - (lg_sl ([.ref x0, .int a1, .int a2, .ref o])).length) Slot.unset).toArray = ls at hl ⊢
  have hl : lv_has ls 5 [(0, .ref x0), (1, .int a1), (2, .int a2), (3, .ref o)] := hl
  refine lv_aload_n hx hb ld_L_function_0 rfl (lv_at hl 3 rfl) ?_
  refine lv_iconst (v := 0) hx hb ld_L_function_1 (by decide) ?_
  refine lv_aload_n hx hb ld_L_function_2 rfl (lv_at hl 0 rfl) ?_
  refine lv_iload_n hx hb ld_L_function_3 rfl (lv_at hl 1 rfl) ?_
  refine lv_iload_n hx hb ld_L_function_4 rfl (lv_at hl 2 rfl) ?_
  refine wl_callX (As := [.int a1, .int a2]) (rest := [.int 0, .ref o]) (C := "TableTongue") (own := "TableTongueLaw") (Ts := lw_wH ly_L_function method_5_code 5 (some .int) [(0, 10, 13, 19)]) (wf := [wl_o o cO h]) ⟨hx, hb, hml, hown, hts⟩ hl.1 hN hCF hE hA hM hK0 hq rfl hKx hP1 hD1 hS ⟨callB_of 2 hts (lw_GoodInH (List.mem_cons_of_mem _ (lw_in 2144 (by decide +kernel) (by decide +kernel))) (by decide +kernel)) rfl rfl rfl (hts _ (List.mem_cons_of_mem _ (lw_in 394 (by decide +kernel) (by decide +kernel)))) (hts _ (List.mem_cons_of_mem _ (lw_in 2141 (by decide +kernel) (by decide +kernel)))) ⟨by decide, by decide, by decide +kernel⟩ ⟨Nat.le_of_ble_eq_true rfl, Nat.le_of_ble_eq_true rfl⟩, hts _ (List.mem_cons_of_mem _ (lw_in 2142 (by decide +kernel) (by decide +kernel))), hts _ (List.mem_cons_of_mem _ (lw_in 2143 (by decide +kernel) (by decide +kernel)))⟩ rfl ⟨by show 0 + mc ≤ mc; omega, by show 0 + ms ≤ ms; omega⟩ (Nat.le_of_ble_eq_true rfl) ld_L_function_5 (fun ce q9 t3 w3 H locs hK1 hK3 hP3 hD3 hS hce hcv hcl => ?_)
  refine vx_catch (own := "TableTongueLaw") (name := "java/lang/IndexOutOfBoundsException") hown [] ⟨0, 10, 13, 19⟩ [] (htab.trans rfl) (fun z hz => nomatch hz) (by decide) (by decide) (hts _ (List.mem_cons_of_mem _ (lw_in 2118 (by decide +kernel) (by decide +kernel)))) (va_Nw.use rfl (hE.1.2.2 _ (List.mem_of_getElem? (i := 2125) (by decide +kernel)) rfl)) hce hcv hcl ?_
  refine lv_astore (lv' := [(4, .ref q9), (0, .ref x0), (1, .int a1), (2, .int a2), (3, .ref o)]) hx hb ld_L_function_13 hl (by decide) rfl (fun ls hl => ?_)
  refine lv_iconst (v := 1) hx hb ld_L_function_15 (by decide) ?_
  exact W.widen (by omega) (by omega) (W.iret (v := 1) hx hb hr (fun t ht hW => ⟨⟨_, (cO, .long) :: t3, wl_o o cO h :: w3, rfl, ⟨h, rfl, fun z => absurd z (by decide), t3, w3, rfl, rfl, hK1⟩, by rw [ht]; exact hP3.comm, va_K.moved hW.alike (wl_K_app hKo hK3), by rw [hAe]; exact hD3.comm⟩, by rw [hAe]; exact hS.F ht⟩) hS.2.2 ld_L_function_16)
set_option maxHeartbeats 4000000 in
set_option maxRecDepth 100000 in
theorem ww_load_ok {l : Launch} {D : va_G} {ka : ev_KA} {x0 : Nat} {KX K1 : Nat → wl_Y → va_W → Prop} {mc ms : Nat} (hRc : wl_Rc 3 KX)  (hM : wl_M l D ka ly_X11_load (lw_w ly_X11_load prog_1_method_7_code 1 none) 1900 80000 (KX x0) [.ref x0] (fun v t w => v = none ∧ K1 x0 t w) mc ms) : wl_M l D ka ly_L_load (lw_wH ly_L_load method_6_code 2 (some .int) [(0, 4, 7, 28)]) 1950 82000 (KX x0) [.ref x0] (fun v t w => v = some (.int 0) ∧ K1 x0 t w) mc ms := by
  intro tys ws sz hK0
  obtain ⟨q0, fs, hq⟩ := hRc _ _ _ hK0
  show Met l ly_L_load (lw_wH ly_L_load method_6_code 2 (some .int) [(0, 4, 7, 28)]) _ (wl_Pc D ka _ _ sz [.ref x0]) _ mc ms _
  refine va_MetW (cc := method_6_code) (maxL := 2) (ret := (some .int)) (hh := [(0, 4, 7, 28)]) (by decide) rfl ?_
  intro p e s m args below meth c s₁ B hml hv
  obtain ⟨rfl, hsz, hP, hK, hD0, hN, hCF, hE⟩ := hv
  subst hsz
  have hx := B.exec
  have hb := B.bytes
  have hr := B.returns
  have hts := atoms_spec (ws := lw_wH ly_L_load method_6_code 2 (some .int) [(0, 4, 7, 28)]) B.pre
  have hown : s.vm.findClass "TableTongueLaw" = some m.cls := findClass_of_methodNamed B.named
  have hD := hD0.self (sz := s.heap.size)
  generalize hAe : va_A ws s.heap.size = A at hD hCF hE ⊢
  have hA : ∀ q : Nat, s.heap.size ≤ q → A q := fun q h => by rw [← hAe]; exact Or.inr h
  have hS : va_S A s.heap s.heap [] := va_S.rf
  have hP1 : va_P D al_cl (ws ++ []) s.heap := by rw [List.append_nil]; exact hP
  have hD1 : va_D A (ws ++ []) := by rw [List.append_nil]; exact hD
  have hKx := hK
  have hl := lv_entry ([.ref x0]) (n := 2) (Nat.le_of_ble_eq_true rfl)
  rw [lg_entry_eq]
  generalize (lg_sl ([.ref x0]) ++ List.replicate (2 - (lg_sl ([.ref x0])).length) Slot.unset).toArray = ls at hl ⊢
  have hl : lv_has ls 2 [(0, .ref x0)] := hl
  refine lv_aload_n hx hb ld_L_load_0 rfl (lv_at hl 0 rfl) ?_
  refine wl_callG (As := []) (rest := []) (C := "TableTongue") (own := "TableTongueLaw") (Ts := lw_wH ly_L_load method_6_code 2 (some .int) [(0, 4, 7, 28)]) (wf := []) ⟨hx, hb, hml, hown, hts⟩ hl.1 hN hCF hE hA hM hK0 hq rfl hKx hP1 hD1 hS ⟨callB_of 0 hts (lw_GoodInH (List.mem_cons_of_mem _ (lw_in 2152 (by decide +kernel) (by decide +kernel))) (by decide +kernel)) rfl rfl rfl (hts _ (List.mem_cons_of_mem _ (lw_in 394 (by decide +kernel) (by decide +kernel)))) (hts _ (List.mem_cons_of_mem _ (lw_in 2149 (by decide +kernel) (by decide +kernel)))) ⟨by decide, by decide, by decide +kernel⟩ ⟨Nat.le_of_ble_eq_true rfl, Nat.le_of_ble_eq_true rfl⟩, hts _ (List.mem_cons_of_mem _ (lw_in 2150 (by decide +kernel) (by decide +kernel))), hts _ (List.mem_cons_of_mem _ (lw_in 2151 (by decide +kernel) (by decide +kernel)))⟩ rfl ⟨by show 0 + mc ≤ mc; omega, by show 0 + ms ≤ ms; omega⟩ (Nat.le_of_ble_eq_true rfl) ld_L_load_1 (fun v t3 w3 H locs hv hK3 hP3 hD3 hS => ?_)
  obtain ⟨rfl, hK1⟩ := hv
  refine lv_goto (tgt := 10) hx hb ld_L_load_4 (by decide) ?_
  refine lv_iconst (v := 0) hx hb ld_L_load_10 (by decide) ?_
  exact W.widen (by omega) (by omega) (W.iret (v := 0) hx hb hr (fun t ht hW => ⟨⟨_, t3, w3, rfl, ⟨rfl, hK1⟩, by rw [ht]; rw [List.append_nil] at hP3; exact hP3, va_K.moved hW.alike hK3, by rw [List.append_nil] at hD3; rw [hAe]; exact hD3⟩, by rw [hAe]; exact hS.F ht⟩) hS.2.2 ld_L_load_11)
set_option maxHeartbeats 4000000 in
set_option maxRecDepth 100000 in
theorem ww_load_bad {l : Launch} {D : va_G} {ka : ev_KA} {x0 : Nat} {KX K1 : Nat → wl_Y → va_W → Prop} {mc ms : Nat} (hRc : wl_Rc 3 KX)  (hM : wl_TX l D ka ly_X11_load (lw_w ly_X11_load prog_1_method_7_code 1 none) 1900 80000 (KX x0) [.ref x0] "java/lang/IllegalStateException" (K1 x0) mc ms) : wl_M l D ka ly_L_load (lw_wH ly_L_load method_6_code 2 (some .int) [(0, 4, 7, 28)]) 1950 82000 (KX x0) [.ref x0] (fun v t w => v = some (.int 1) ∧ K1 x0 t w) mc ms := by
  intro tys ws sz hK0
  obtain ⟨q0, fs, hq⟩ := hRc _ _ _ hK0
  show Met l ly_L_load (lw_wH ly_L_load method_6_code 2 (some .int) [(0, 4, 7, 28)]) _ (wl_Pc D ka _ _ sz [.ref x0]) _ mc ms _
  refine va_MetW (cc := method_6_code) (maxL := 2) (ret := (some .int)) (hh := [(0, 4, 7, 28)]) (by decide) rfl ?_
  intro p e s m args below meth c s₁ B hml hv
  obtain ⟨rfl, hsz, hP, hK, hD0, hN, hCF, hE⟩ := hv
  subst hsz
  have hx := B.exec
  have hb := B.bytes
  have hr := B.returns
  have hts := atoms_spec (ws := lw_wH ly_L_load method_6_code 2 (some .int) [(0, 4, 7, 28)]) B.pre
  have hown : s.vm.findClass "TableTongueLaw" = some m.cls := findClass_of_methodNamed B.named
  have htab := vx_table (x := ly_L_load) B (hts _ List.mem_cons_self)
  have hD := hD0.self (sz := s.heap.size)
  generalize hAe : va_A ws s.heap.size = A at hD hCF hE ⊢
  have hA : ∀ q : Nat, s.heap.size ≤ q → A q := fun q h => by rw [← hAe]; exact Or.inr h
  have hS : va_S A s.heap s.heap [] := va_S.rf
  have hP1 : va_P D al_cl (ws ++ []) s.heap := by rw [List.append_nil]; exact hP
  have hD1 : va_D A (ws ++ []) := by rw [List.append_nil]; exact hD
  have hKx := hK
  have hl := lv_entry ([.ref x0]) (n := 2) (Nat.le_of_ble_eq_true rfl)
  rw [lg_entry_eq]
  generalize (lg_sl ([.ref x0]) ++ List.replicate (2 - (lg_sl ([.ref x0])).length) Slot.unset).toArray = ls at hl ⊢
  have hl : lv_has ls 2 [(0, .ref x0)] := hl
  refine lv_aload_n hx hb ld_L_load_0 rfl (lv_at hl 0 rfl) ?_
  refine wl_callX (As := []) (rest := []) (C := "TableTongue") (own := "TableTongueLaw") (Ts := lw_wH ly_L_load method_6_code 2 (some .int) [(0, 4, 7, 28)]) (wf := []) ⟨hx, hb, hml, hown, hts⟩ hl.1 hN hCF hE hA hM hK0 hq rfl hKx hP1 hD1 hS ⟨callB_of 0 hts (lw_GoodInH (List.mem_cons_of_mem _ (lw_in 2152 (by decide +kernel) (by decide +kernel))) (by decide +kernel)) rfl rfl rfl (hts _ (List.mem_cons_of_mem _ (lw_in 394 (by decide +kernel) (by decide +kernel)))) (hts _ (List.mem_cons_of_mem _ (lw_in 2149 (by decide +kernel) (by decide +kernel)))) ⟨by decide, by decide, by decide +kernel⟩ ⟨Nat.le_of_ble_eq_true rfl, Nat.le_of_ble_eq_true rfl⟩, hts _ (List.mem_cons_of_mem _ (lw_in 2150 (by decide +kernel) (by decide +kernel))), hts _ (List.mem_cons_of_mem _ (lw_in 2151 (by decide +kernel) (by decide +kernel)))⟩ rfl ⟨by show 0 + mc ≤ mc; omega, by show 0 + ms ≤ ms; omega⟩ (Nat.le_of_ble_eq_true rfl) ld_L_load_1 (fun ce q9 t3 w3 H locs hK1 hK3 hP3 hD3 hS hce hcv hcl => ?_)
  refine vx_catch (own := "TableTongueLaw") (name := "java/lang/IllegalStateException") hown [] ⟨0, 4, 7, 28⟩ [] (htab.trans rfl) (fun z hz => nomatch hz) (by decide) (by decide) (hts _ (List.mem_cons_of_mem _ (lw_in 2148 (by decide +kernel) (by decide +kernel)))) (va_Nw.use rfl (hE.1.2.2 _ (List.mem_of_getElem? (i := 2155) (by decide +kernel)) rfl)) hce hcv hcl ?_
  refine lv_astore_n (lv' := [(1, .ref q9), (0, .ref x0)]) hx hb ld_L_load_7 rfl hl (by decide) rfl (fun ls hl => ?_)
  refine lv_iconst (v := 1) hx hb ld_L_load_8 (by decide) ?_
  exact W.widen (by omega) (by omega) (W.iret (v := 1) hx hb hr (fun t ht hW => ⟨⟨_, t3, w3, rfl, ⟨rfl, hK1⟩, by rw [ht]; rw [List.append_nil] at hP3; exact hP3, va_K.moved hW.alike hK3, by rw [List.append_nil] at hD3; rw [hAe]; exact hD3⟩, by rw [hAe]; exact hS.F ht⟩) hS.2.2 ld_L_load_9)
set_option maxHeartbeats 4000000 in
set_option maxRecDepth 100000 in
theorem ww_run_ok {l : Launch} {D : va_G} {ka : ev_KA} {x0 : Nat} {KX K1 : Nat → wl_Y → va_W → Prop} {mc ms : Nat} (hRc : wl_Rc 3 KX) {r : Int32} (a1 : Int32) (hM : wl_M l D ka ly_X11_run (lw_w ly_X11_run prog_1_method_8_code 2 (some .int)) 1900 80000 (KX x0) [.ref x0, .int a1] (fun v t w => v = some (.int r) ∧ K1 x0 t w) mc ms) : wl_Wc l D ka ly_L_run (lw_wH ly_L_run method_7_code 4 (some .int) [(0, 9, 12, 28), (0, 9, 15, 13)]) x0 KX K1 [.int a1] 0 r.toInt64 mc ms := by
  intro o cO h tys ws sz hW0
  obtain ⟨tys, ws, rfl, rfl, hK0⟩ := hW0
  obtain ⟨q0, fs, hq⟩ := hRc _ _ _ hK0
  show Met l ly_L_run (lw_wH ly_L_run method_7_code 4 (some .int) [(0, 9, 12, 28), (0, 9, 15, 13)]) _ (wl_Pc D ka _ _ sz [.ref x0, .int a1, .ref o]) _ mc ms _
  refine va_MetW (cc := method_7_code) (maxL := 4) (ret := (some .int)) (hh := [(0, 9, 12, 28), (0, 9, 15, 13)]) (by decide) rfl ?_
  intro p e s m args below meth c s₁ B hml hv
  obtain ⟨rfl, hsz, hP, hK, hD0, hN, hCF, hE⟩ := hv
  subst hsz
  have hx := B.exec
  have hb := B.bytes
  have hr := B.returns
  have hts := atoms_spec (ws := lw_wH ly_L_run method_7_code 4 (some .int) [(0, 9, 12, 28), (0, 9, 15, 13)]) B.pre
  have hown : s.vm.findClass "TableTongueLaw" = some m.cls := findClass_of_methodNamed B.named
  have hD := hD0.self (sz := s.heap.size)
  generalize hAe : va_A (wl_o o cO h :: ws) s.heap.size = A at hD hCF hE ⊢
  have hA : ∀ q : Nat, s.heap.size ≤ q → A q := fun q h => by rw [← hAe]; exact Or.inr h
  have hS : va_S A s.heap s.heap [] := va_S.rf
  have hP1 : va_P D al_cl (ws ++ [wl_o o cO h]) s.heap := va_P.comm (a := [wl_o o cO h]) hP
  have hD1 : va_D A (ws ++ [wl_o o cO h]) := va_D.comm (a := [wl_o o cO h]) hD
  obtain ⟨hKo, hKx⟩ := wl_K_cons hK
  have hl := lv_entry ([.ref x0, .int a1, .ref o]) (n := 4) (Nat.le_of_ble_eq_true rfl)
  rw [lg_entry_eq]
  generalize (lg_sl ([.ref x0, .int a1, .ref o]) ++ List.replicate (4 - (lg_sl ([.ref x0, .int a1, .ref o])).length) Slot.unset).toArray = ls at hl ⊢
  have hl : lv_has ls 4 [(0, .ref x0), (1, .int a1), (2, .ref o)] := hl
  refine lv_aload_n hx hb ld_L_run_0 rfl (lv_at hl 2 rfl) ?_
  refine lv_iconst (v := 0) hx hb ld_L_run_1 (by decide) ?_
  refine lv_aload_n hx hb ld_L_run_2 rfl (lv_at hl 0 rfl) ?_
  refine lv_iload_n hx hb ld_L_run_3 rfl (lv_at hl 1 rfl) ?_
  refine wl_callG (As := [.int a1]) (rest := [.int 0, .ref o]) (C := "TableTongue") (own := "TableTongueLaw") (Ts := lw_wH ly_L_run method_7_code 4 (some .int) [(0, 9, 12, 28), (0, 9, 15, 13)]) (wf := [wl_o o cO h]) ⟨hx, hb, hml, hown, hts⟩ hl.1 hN hCF hE hA hM hK0 hq rfl hKx hP1 hD1 hS ⟨callB_of 1 hts (lw_GoodInH (List.mem_cons_of_mem _ (lw_in 2174 (by decide +kernel) (by decide +kernel))) (by decide +kernel)) rfl rfl rfl (hts _ (List.mem_cons_of_mem _ (lw_in 394 (by decide +kernel) (by decide +kernel)))) (hts _ (List.mem_cons_of_mem _ (lw_in 2171 (by decide +kernel) (by decide +kernel)))) ⟨by decide, by decide, by decide +kernel⟩ ⟨Nat.le_of_ble_eq_true rfl, Nat.le_of_ble_eq_true rfl⟩, hts _ (List.mem_cons_of_mem _ (lw_in 2172 (by decide +kernel) (by decide +kernel))), hts _ (List.mem_cons_of_mem _ (lw_in 2173 (by decide +kernel) (by decide +kernel)))⟩ rfl ⟨by show 0 + mc ≤ mc; omega, by show 0 + ms ≤ ms; omega⟩ (Nat.le_of_ble_eq_true rfl) ld_L_run_4 (fun v t3 w3 H locs hv hK3 hP3 hD3 hS => ?_)
  obtain ⟨rfl, hK1⟩ := hv
  refine lv_i2l (v := (r : Int32).toInt64) hx hb ld_L_run_7 rfl ?_
  have hP4 : va_P D al_cl ([wl_o o cO h] ++ w3) H := hP3.comm
  have hD4 : va_D A ([wl_o o cO h] ++ w3) := hD3.comm
  refine va_last hx hb hKo hP4 hD4 hS 0 0 rfl rfl (show vp_in (nI 0) 1 from vp_in_nI (by decide) (by decide)) ld_L_run_8 (fun H locs hP5 hD5 hS => ?_)
  refine lv_goto (tgt := 18) hx hb ld_L_run_9 (by decide) ?_
  refine lv_iconst (v := 0) hx hb ld_L_run_18 (by decide) ?_
  exact W.widen (by omega) (by omega) (W.iret (v := 0) hx hb hr (fun t ht hW => ⟨⟨_, (cO, .long) :: t3, wl_o o cO (vp_updL h (0 : Int32).toNatClampNeg (r.toInt64)) :: w3, rfl, ⟨vp_updL h (0 : Int32).toNatClampNeg (r.toInt64), rfl, fun _ => pk_uLs, t3, w3, rfl, rfl, hK1⟩, by rw [ht]; exact hP5, va_K.moved hW.alike (wl_K_app hKo hK3), by rw [hAe]; exact hD5⟩, by rw [hAe]; exact hS.F ht⟩) hS.2.2 ld_L_run_19)
set_option maxHeartbeats 4000000 in
set_option maxRecDepth 100000 in
theorem ww_run_bad {l : Launch} {D : va_G} {ka : ev_KA} {x0 : Nat} {KX K1 : Nat → wl_Y → va_W → Prop} {mc ms : Nat} (hRc : wl_Rc 3 KX) (a1 : Int32) (hM : wl_TX l D ka ly_X11_run (lw_w ly_X11_run prog_1_method_8_code 2 (some .int)) 1900 80000 (KX x0) [.ref x0, .int a1] "java/lang/IllegalStateException" (K1 x0) mc ms) : wl_Wc l D ka ly_L_run (lw_wH ly_L_run method_7_code 4 (some .int) [(0, 9, 12, 28), (0, 9, 15, 13)]) x0 KX K1 [.int a1] 1 0 mc ms := by
  intro o cO h tys ws sz hW0
  obtain ⟨tys, ws, rfl, rfl, hK0⟩ := hW0
  obtain ⟨q0, fs, hq⟩ := hRc _ _ _ hK0
  show Met l ly_L_run (lw_wH ly_L_run method_7_code 4 (some .int) [(0, 9, 12, 28), (0, 9, 15, 13)]) _ (wl_Pc D ka _ _ sz [.ref x0, .int a1, .ref o]) _ mc ms _
  refine va_MetW (cc := method_7_code) (maxL := 4) (ret := (some .int)) (hh := [(0, 9, 12, 28), (0, 9, 15, 13)]) (by decide) rfl ?_
  intro p e s m args below meth c s₁ B hml hv
  obtain ⟨rfl, hsz, hP, hK, hD0, hN, hCF, hE⟩ := hv
  subst hsz
  have hx := B.exec
  have hb := B.bytes
  have hr := B.returns
  have hts := atoms_spec (ws := lw_wH ly_L_run method_7_code 4 (some .int) [(0, 9, 12, 28), (0, 9, 15, 13)]) B.pre
  have hown : s.vm.findClass "TableTongueLaw" = some m.cls := findClass_of_methodNamed B.named
  have htab := vx_table (x := ly_L_run) B (hts _ List.mem_cons_self)
  have hD := hD0.self (sz := s.heap.size)
  generalize hAe : va_A (wl_o o cO h :: ws) s.heap.size = A at hD hCF hE ⊢
  have hA : ∀ q : Nat, s.heap.size ≤ q → A q := fun q h => by rw [← hAe]; exact Or.inr h
  have hS : va_S A s.heap s.heap [] := va_S.rf
  have hP1 : va_P D al_cl (ws ++ [wl_o o cO h]) s.heap := va_P.comm (a := [wl_o o cO h]) hP
  have hD1 : va_D A (ws ++ [wl_o o cO h]) := va_D.comm (a := [wl_o o cO h]) hD
  obtain ⟨hKo, hKx⟩ := wl_K_cons hK
  have hl := lv_entry ([.ref x0, .int a1, .ref o]) (n := 4) (Nat.le_of_ble_eq_true rfl)
  rw [lg_entry_eq]
  generalize (lg_sl ([.ref x0, .int a1, .ref o]) ++ List.replicate (4 - (lg_sl ([.ref x0, .int a1, .ref o])).length) Slot.unset).toArray = ls at hl ⊢
  have hl : lv_has ls 4 [(0, .ref x0), (1, .int a1), (2, .ref o)] := hl
  refine lv_aload_n hx hb ld_L_run_0 rfl (lv_at hl 2 rfl) ?_
  refine lv_iconst (v := 0) hx hb ld_L_run_1 (by decide) ?_
  refine lv_aload_n hx hb ld_L_run_2 rfl (lv_at hl 0 rfl) ?_
  refine lv_iload_n hx hb ld_L_run_3 rfl (lv_at hl 1 rfl) ?_
  refine wl_callX (As := [.int a1]) (rest := [.int 0, .ref o]) (C := "TableTongue") (own := "TableTongueLaw") (Ts := lw_wH ly_L_run method_7_code 4 (some .int) [(0, 9, 12, 28), (0, 9, 15, 13)]) (wf := [wl_o o cO h]) ⟨hx, hb, hml, hown, hts⟩ hl.1 hN hCF hE hA hM hK0 hq rfl hKx hP1 hD1 hS ⟨callB_of 1 hts (lw_GoodInH (List.mem_cons_of_mem _ (lw_in 2174 (by decide +kernel) (by decide +kernel))) (by decide +kernel)) rfl rfl rfl (hts _ (List.mem_cons_of_mem _ (lw_in 394 (by decide +kernel) (by decide +kernel)))) (hts _ (List.mem_cons_of_mem _ (lw_in 2171 (by decide +kernel) (by decide +kernel)))) ⟨by decide, by decide, by decide +kernel⟩ ⟨Nat.le_of_ble_eq_true rfl, Nat.le_of_ble_eq_true rfl⟩, hts _ (List.mem_cons_of_mem _ (lw_in 2172 (by decide +kernel) (by decide +kernel))), hts _ (List.mem_cons_of_mem _ (lw_in 2173 (by decide +kernel) (by decide +kernel)))⟩ rfl ⟨by show 0 + mc ≤ mc; omega, by show 0 + ms ≤ ms; omega⟩ (Nat.le_of_ble_eq_true rfl) ld_L_run_4 (fun ce q9 t3 w3 H locs hK1 hK3 hP3 hD3 hS hce hcv hcl => ?_)
  refine vx_catch (own := "TableTongueLaw") (name := "java/lang/IllegalStateException") hown [] ⟨0, 9, 12, 28⟩ [⟨0, 9, 15, 13⟩] (htab.trans rfl) (fun z hz => nomatch hz) (by decide) (by decide) (hts _ (List.mem_cons_of_mem _ (lw_in 2148 (by decide +kernel) (by decide +kernel)))) (va_Nw.use rfl (hE.1.2.2 _ (List.mem_of_getElem? (i := 2155) (by decide +kernel)) rfl)) hce hcv hcl ?_
  refine lv_astore_n (lv' := [(3, .ref q9), (0, .ref x0), (1, .int a1), (2, .ref o)]) hx hb ld_L_run_12 rfl hl (by decide) rfl (fun ls hl => ?_)
  refine lv_iconst (v := 1) hx hb ld_L_run_13 (by decide) ?_
  exact W.widen (by omega) (by omega) (W.iret (v := 1) hx hb hr (fun t ht hW => ⟨⟨_, (cO, .long) :: t3, wl_o o cO h :: w3, rfl, ⟨h, rfl, fun z => absurd z (by decide), t3, w3, rfl, rfl, hK1⟩, by rw [ht]; exact hP3.comm, va_K.moved hW.alike (wl_K_app hKo hK3), by rw [hAe]; exact hD3.comm⟩, by rw [hAe]; exact hS.F ht⟩) hS.2.2 ld_L_run_14)
set_option maxHeartbeats 4000000 in
set_option maxRecDepth 100000 in
theorem ww_run_bad2 {l : Launch} {D : va_G} {ka : ev_KA} {x0 : Nat} {KX K1 : Nat → wl_Y → va_W → Prop} {mc ms : Nat} (hRc : wl_Rc 3 KX) (a1 : Int32) (hM : wl_TX l D ka ly_X11_run (lw_w ly_X11_run prog_1_method_8_code 2 (some .int)) 1900 80000 (KX x0) [.ref x0, .int a1] "java/lang/IllegalArgumentException" (K1 x0) mc ms) : wl_Wc l D ka ly_L_run (lw_wH ly_L_run method_7_code 4 (some .int) [(0, 9, 12, 28), (0, 9, 15, 13)]) x0 KX K1 [.int a1] 2 0 mc ms := by
  intro o cO h tys ws sz hW0
  obtain ⟨tys, ws, rfl, rfl, hK0⟩ := hW0
  obtain ⟨q0, fs, hq⟩ := hRc _ _ _ hK0
  show Met l ly_L_run (lw_wH ly_L_run method_7_code 4 (some .int) [(0, 9, 12, 28), (0, 9, 15, 13)]) _ (wl_Pc D ka _ _ sz [.ref x0, .int a1, .ref o]) _ mc ms _
  refine va_MetW (cc := method_7_code) (maxL := 4) (ret := (some .int)) (hh := [(0, 9, 12, 28), (0, 9, 15, 13)]) (by decide) rfl ?_
  intro p e s m args below meth c s₁ B hml hv
  obtain ⟨rfl, hsz, hP, hK, hD0, hN, hCF, hE⟩ := hv
  subst hsz
  have hx := B.exec
  have hb := B.bytes
  have hr := B.returns
  have hts := atoms_spec (ws := lw_wH ly_L_run method_7_code 4 (some .int) [(0, 9, 12, 28), (0, 9, 15, 13)]) B.pre
  have hown : s.vm.findClass "TableTongueLaw" = some m.cls := findClass_of_methodNamed B.named
  have htab := vx_table (x := ly_L_run) B (hts _ List.mem_cons_self)
  have hD := hD0.self (sz := s.heap.size)
  generalize hAe : va_A (wl_o o cO h :: ws) s.heap.size = A at hD hCF hE ⊢
  have hA : ∀ q : Nat, s.heap.size ≤ q → A q := fun q h => by rw [← hAe]; exact Or.inr h
  have hS : va_S A s.heap s.heap [] := va_S.rf
  have hP1 : va_P D al_cl (ws ++ [wl_o o cO h]) s.heap := va_P.comm (a := [wl_o o cO h]) hP
  have hD1 : va_D A (ws ++ [wl_o o cO h]) := va_D.comm (a := [wl_o o cO h]) hD
  obtain ⟨hKo, hKx⟩ := wl_K_cons hK
  have hl := lv_entry ([.ref x0, .int a1, .ref o]) (n := 4) (Nat.le_of_ble_eq_true rfl)
  rw [lg_entry_eq]
  generalize (lg_sl ([.ref x0, .int a1, .ref o]) ++ List.replicate (4 - (lg_sl ([.ref x0, .int a1, .ref o])).length) Slot.unset).toArray = ls at hl ⊢
  have hl : lv_has ls 4 [(0, .ref x0), (1, .int a1), (2, .ref o)] := hl
  refine lv_aload_n hx hb ld_L_run_0 rfl (lv_at hl 2 rfl) ?_
  refine lv_iconst (v := 0) hx hb ld_L_run_1 (by decide) ?_
  refine lv_aload_n hx hb ld_L_run_2 rfl (lv_at hl 0 rfl) ?_
  refine lv_iload_n hx hb ld_L_run_3 rfl (lv_at hl 1 rfl) ?_
  refine wl_callX (As := [.int a1]) (rest := [.int 0, .ref o]) (C := "TableTongue") (own := "TableTongueLaw") (Ts := lw_wH ly_L_run method_7_code 4 (some .int) [(0, 9, 12, 28), (0, 9, 15, 13)]) (wf := [wl_o o cO h]) ⟨hx, hb, hml, hown, hts⟩ hl.1 hN hCF hE hA hM hK0 hq rfl hKx hP1 hD1 hS ⟨callB_of 1 hts (lw_GoodInH (List.mem_cons_of_mem _ (lw_in 2174 (by decide +kernel) (by decide +kernel))) (by decide +kernel)) rfl rfl rfl (hts _ (List.mem_cons_of_mem _ (lw_in 394 (by decide +kernel) (by decide +kernel)))) (hts _ (List.mem_cons_of_mem _ (lw_in 2171 (by decide +kernel) (by decide +kernel)))) ⟨by decide, by decide, by decide +kernel⟩ ⟨Nat.le_of_ble_eq_true rfl, Nat.le_of_ble_eq_true rfl⟩, hts _ (List.mem_cons_of_mem _ (lw_in 2172 (by decide +kernel) (by decide +kernel))), hts _ (List.mem_cons_of_mem _ (lw_in 2173 (by decide +kernel) (by decide +kernel)))⟩ rfl ⟨by show 0 + mc ≤ mc; omega, by show 0 + ms ≤ ms; omega⟩ (Nat.le_of_ble_eq_true rfl) ld_L_run_4 (fun ce q9 t3 w3 H locs hK1 hK3 hP3 hD3 hS hce hcv hcl => ?_)
  refine vx_catch (own := "TableTongueLaw") (name := "java/lang/IllegalArgumentException") hown [⟨0, 9, 12, 28⟩] ⟨0, 9, 15, 13⟩ [] (htab.trans rfl) (fun z hz => by rcases List.mem_cons.mp hz with rfl | hz; exact Or.inr ⟨by decide, "java/lang/IllegalStateException", hts _ (List.mem_cons_of_mem _ (lw_in 2148 (by decide +kernel) (by decide +kernel))), hE.2⟩; cases hz) (by decide) (by decide) (hts _ (List.mem_cons_of_mem _ (lw_in 2099 (by decide +kernel) (by decide +kernel)))) (va_Nw.use rfl (hE.1.2.2 _ (List.mem_of_getElem? (i := 1119) (by decide +kernel)) rfl)) hce hcv hcl ?_
  refine lv_astore_n (lv' := [(3, .ref q9), (0, .ref x0), (1, .int a1), (2, .ref o)]) hx hb ld_L_run_15 rfl hl (by decide) rfl (fun ls hl => ?_)
  refine lv_iconst (v := 2) hx hb ld_L_run_16 (by decide) ?_
  exact W.widen (by omega) (by omega) (W.iret (v := 2) hx hb hr (fun t ht hW => ⟨⟨_, (cO, .long) :: t3, wl_o o cO h :: w3, rfl, ⟨h, rfl, fun z => absurd z (by decide), t3, w3, rfl, rfl, hK1⟩, by rw [ht]; exact hP3.comm, va_K.moved hW.alike (wl_K_app hKo hK3), by rw [hAe]; exact hD3.comm⟩, by rw [hAe]; exact hS.F ht⟩) hS.2.2 ld_L_run_17)
set_option maxHeartbeats 4000000 in
set_option maxRecDepth 100000 in
theorem ww_result_ok {l : Launch} {D : va_G} {ka : ev_KA} {x0 : Nat} {KX K1 : Nat → wl_Y → va_W → Prop} {mc ms : Nat} (hRc : wl_Rc 3 KX) {r : Int64} (a1 : Int32) (a2 : Int32) (hM : wl_M l D ka ly_X11_result (lw_w ly_X11_result prog_1_method_11_code 4 (some .long)) 1900 80000 (KX x0) [.ref x0, .int a1, .int a2] (fun v t w => v = some (.long r) ∧ K1 x0 t w) mc ms) : wl_Wc l D ka ly_L_result (lw_wH ly_L_result method_8_code 5 (some .int) [(0, 9, 12, 19)]) x0 KX K1 [.int a1, .int a2] 0 r mc ms := by
  intro o cO h tys ws sz hW0
  obtain ⟨tys, ws, rfl, rfl, hK0⟩ := hW0
  obtain ⟨q0, fs, hq⟩ := hRc _ _ _ hK0
  show Met l ly_L_result (lw_wH ly_L_result method_8_code 5 (some .int) [(0, 9, 12, 19)]) _ (wl_Pc D ka _ _ sz [.ref x0, .int a1, .int a2, .ref o]) _ mc ms _
  refine va_MetW (cc := method_8_code) (maxL := 5) (ret := (some .int)) (hh := [(0, 9, 12, 19)]) (by decide) rfl ?_
  intro p e s m args below meth c s₁ B hml hv
  obtain ⟨rfl, hsz, hP, hK, hD0, hN, hCF, hE⟩ := hv
  subst hsz
  have hx := B.exec
  have hb := B.bytes
  have hr := B.returns
  have hts := atoms_spec (ws := lw_wH ly_L_result method_8_code 5 (some .int) [(0, 9, 12, 19)]) B.pre
  have hown : s.vm.findClass "TableTongueLaw" = some m.cls := findClass_of_methodNamed B.named
  have hD := hD0.self (sz := s.heap.size)
  generalize hAe : va_A (wl_o o cO h :: ws) s.heap.size = A at hD hCF hE ⊢
  have hA : ∀ q : Nat, s.heap.size ≤ q → A q := fun q h => by rw [← hAe]; exact Or.inr h
  have hS : va_S A s.heap s.heap [] := va_S.rf
  have hP1 : va_P D al_cl (ws ++ [wl_o o cO h]) s.heap := va_P.comm (a := [wl_o o cO h]) hP
  have hD1 : va_D A (ws ++ [wl_o o cO h]) := va_D.comm (a := [wl_o o cO h]) hD
  obtain ⟨hKo, hKx⟩ := wl_K_cons hK
  have hl := lv_entry ([.ref x0, .int a1, .int a2, .ref o]) (n := 5) (Nat.le_of_ble_eq_true rfl)
  rw [lg_entry_eq]
  generalize (lg_sl ([.ref x0, .int a1, .int a2, .ref o]) ++ List.replicate (5 - (lg_sl ([.ref x0, .int a1, .int a2, .ref o])).length) Slot.unset).toArray = ls at hl ⊢
  have hl : lv_has ls 5 [(0, .ref x0), (1, .int a1), (2, .int a2), (3, .ref o)] := hl
  refine lv_aload_n hx hb ld_L_result_0 rfl (lv_at hl 3 rfl) ?_
  refine lv_iconst (v := 0) hx hb ld_L_result_1 (by decide) ?_
  refine lv_aload_n hx hb ld_L_result_2 rfl (lv_at hl 0 rfl) ?_
  refine lv_iload_n hx hb ld_L_result_3 rfl (lv_at hl 1 rfl) ?_
  refine lv_iload_n hx hb ld_L_result_4 rfl (lv_at hl 2 rfl) ?_
  refine wl_callG (As := [.int a1, .int a2]) (rest := [.int 0, .ref o]) (C := "TableTongue") (own := "TableTongueLaw") (Ts := lw_wH ly_L_result method_8_code 5 (some .int) [(0, 9, 12, 19)]) (wf := [wl_o o cO h]) ⟨hx, hb, hml, hown, hts⟩ hl.1 hN hCF hE hA hM hK0 hq rfl hKx hP1 hD1 hS ⟨callB_of 2 hts (lw_GoodInH (List.mem_cons_of_mem _ (lw_in 2907 (by decide +kernel) (by decide +kernel))) (by decide +kernel)) rfl rfl rfl (hts _ (List.mem_cons_of_mem _ (lw_in 394 (by decide +kernel) (by decide +kernel)))) (hts _ (List.mem_cons_of_mem _ (lw_in 2904 (by decide +kernel) (by decide +kernel)))) ⟨by decide, by decide, by decide +kernel⟩ ⟨Nat.le_of_ble_eq_true rfl, Nat.le_of_ble_eq_true rfl⟩, hts _ (List.mem_cons_of_mem _ (lw_in 2905 (by decide +kernel) (by decide +kernel))), hts _ (List.mem_cons_of_mem _ (lw_in 2906 (by decide +kernel) (by decide +kernel)))⟩ rfl ⟨by show 0 + mc ≤ mc; omega, by show 0 + ms ≤ ms; omega⟩ (Nat.le_of_ble_eq_true rfl) ld_L_result_5 (fun v t3 w3 H locs hv hK3 hP3 hD3 hS => ?_)
  obtain ⟨rfl, hK1⟩ := hv
  have hP4 : va_P D al_cl ([wl_o o cO h] ++ w3) H := hP3.comm
  have hD4 : va_D A ([wl_o o cO h] ++ w3) := hD3.comm
  refine va_last hx hb hKo hP4 hD4 hS 0 0 rfl rfl (show vp_in (nI 0) 1 from vp_in_nI (by decide) (by decide)) ld_L_result_8 (fun H locs hP5 hD5 hS => ?_)
  refine lv_goto (tgt := 16) hx hb ld_L_result_9 (by decide) ?_
  refine lv_iconst (v := 0) hx hb ld_L_result_16 (by decide) ?_
  exact W.widen (by omega) (by omega) (W.iret (v := 0) hx hb hr (fun t ht hW => ⟨⟨_, (cO, .long) :: t3, wl_o o cO (vp_updL h (0 : Int32).toNatClampNeg r) :: w3, rfl, ⟨vp_updL h (0 : Int32).toNatClampNeg r, rfl, fun _ => pk_uLs, t3, w3, rfl, rfl, hK1⟩, by rw [ht]; exact hP5, va_K.moved hW.alike (wl_K_app hKo hK3), by rw [hAe]; exact hD5⟩, by rw [hAe]; exact hS.F ht⟩) hS.2.2 ld_L_result_17)
set_option maxHeartbeats 4000000 in
set_option maxRecDepth 100000 in
theorem ww_result_bad {l : Launch} {D : va_G} {ka : ev_KA} {x0 : Nat} {KX K1 : Nat → wl_Y → va_W → Prop} {mc ms : Nat} (hRc : wl_Rc 3 KX) (a1 : Int32) (a2 : Int32) (hM : wl_TX l D ka ly_X11_result (lw_w ly_X11_result prog_1_method_11_code 4 (some .long)) 1900 80000 (KX x0) [.ref x0, .int a1, .int a2] "java/lang/IndexOutOfBoundsException" (K1 x0) mc ms) : wl_Wc l D ka ly_L_result (lw_wH ly_L_result method_8_code 5 (some .int) [(0, 9, 12, 19)]) x0 KX K1 [.int a1, .int a2] 1 0 mc ms := by
  intro o cO h tys ws sz hW0
  obtain ⟨tys, ws, rfl, rfl, hK0⟩ := hW0
  obtain ⟨q0, fs, hq⟩ := hRc _ _ _ hK0
  show Met l ly_L_result (lw_wH ly_L_result method_8_code 5 (some .int) [(0, 9, 12, 19)]) _ (wl_Pc D ka _ _ sz [.ref x0, .int a1, .int a2, .ref o]) _ mc ms _
  refine va_MetW (cc := method_8_code) (maxL := 5) (ret := (some .int)) (hh := [(0, 9, 12, 19)]) (by decide) rfl ?_
  intro p e s m args below meth c s₁ B hml hv
  obtain ⟨rfl, hsz, hP, hK, hD0, hN, hCF, hE⟩ := hv
  subst hsz
  have hx := B.exec
  have hb := B.bytes
  have hr := B.returns
  have hts := atoms_spec (ws := lw_wH ly_L_result method_8_code 5 (some .int) [(0, 9, 12, 19)]) B.pre
  have hown : s.vm.findClass "TableTongueLaw" = some m.cls := findClass_of_methodNamed B.named
  have htab := vx_table (x := ly_L_result) B (hts _ List.mem_cons_self)
  have hD := hD0.self (sz := s.heap.size)
  generalize hAe : va_A (wl_o o cO h :: ws) s.heap.size = A at hD hCF hE ⊢
  have hA : ∀ q : Nat, s.heap.size ≤ q → A q := fun q h => by rw [← hAe]; exact Or.inr h
  have hS : va_S A s.heap s.heap [] := va_S.rf
  have hP1 : va_P D al_cl (ws ++ [wl_o o cO h]) s.heap := va_P.comm (a := [wl_o o cO h]) hP
  have hD1 : va_D A (ws ++ [wl_o o cO h]) := va_D.comm (a := [wl_o o cO h]) hD
  obtain ⟨hKo, hKx⟩ := wl_K_cons hK
  have hl := lv_entry ([.ref x0, .int a1, .int a2, .ref o]) (n := 5) (Nat.le_of_ble_eq_true rfl)
  rw [lg_entry_eq]
  generalize (lg_sl ([.ref x0, .int a1, .int a2, .ref o]) ++ List.replicate (5 - (lg_sl ([.ref x0, .int a1, .int a2, .ref o])).length) Slot.unset).toArray = ls at hl ⊢
  have hl : lv_has ls 5 [(0, .ref x0), (1, .int a1), (2, .int a2), (3, .ref o)] := hl
  refine lv_aload_n hx hb ld_L_result_0 rfl (lv_at hl 3 rfl) ?_
  refine lv_iconst (v := 0) hx hb ld_L_result_1 (by decide) ?_
  refine lv_aload_n hx hb ld_L_result_2 rfl (lv_at hl 0 rfl) ?_
  refine lv_iload_n hx hb ld_L_result_3 rfl (lv_at hl 1 rfl) ?_
  refine lv_iload_n hx hb ld_L_result_4 rfl (lv_at hl 2 rfl) ?_
  refine wl_callX (As := [.int a1, .int a2]) (rest := [.int 0, .ref o]) (C := "TableTongue") (own := "TableTongueLaw") (Ts := lw_wH ly_L_result method_8_code 5 (some .int) [(0, 9, 12, 19)]) (wf := [wl_o o cO h]) ⟨hx, hb, hml, hown, hts⟩ hl.1 hN hCF hE hA hM hK0 hq rfl hKx hP1 hD1 hS ⟨callB_of 2 hts (lw_GoodInH (List.mem_cons_of_mem _ (lw_in 2907 (by decide +kernel) (by decide +kernel))) (by decide +kernel)) rfl rfl rfl (hts _ (List.mem_cons_of_mem _ (lw_in 394 (by decide +kernel) (by decide +kernel)))) (hts _ (List.mem_cons_of_mem _ (lw_in 2904 (by decide +kernel) (by decide +kernel)))) ⟨by decide, by decide, by decide +kernel⟩ ⟨Nat.le_of_ble_eq_true rfl, Nat.le_of_ble_eq_true rfl⟩, hts _ (List.mem_cons_of_mem _ (lw_in 2905 (by decide +kernel) (by decide +kernel))), hts _ (List.mem_cons_of_mem _ (lw_in 2906 (by decide +kernel) (by decide +kernel)))⟩ rfl ⟨by show 0 + mc ≤ mc; omega, by show 0 + ms ≤ ms; omega⟩ (Nat.le_of_ble_eq_true rfl) ld_L_result_5 (fun ce q9 t3 w3 H locs hK1 hK3 hP3 hD3 hS hce hcv hcl => ?_)
  refine vx_catch (own := "TableTongueLaw") (name := "java/lang/IndexOutOfBoundsException") hown [] ⟨0, 9, 12, 19⟩ [] (htab.trans rfl) (fun z hz => nomatch hz) (by decide) (by decide) (hts _ (List.mem_cons_of_mem _ (lw_in 2118 (by decide +kernel) (by decide +kernel)))) (va_Nw.use rfl (hE.1.2.2 _ (List.mem_of_getElem? (i := 2125) (by decide +kernel)) rfl)) hce hcv hcl ?_
  refine lv_astore (lv' := [(4, .ref q9), (0, .ref x0), (1, .int a1), (2, .int a2), (3, .ref o)]) hx hb ld_L_result_12 hl (by decide) rfl (fun ls hl => ?_)
  refine lv_iconst (v := 1) hx hb ld_L_result_14 (by decide) ?_
  exact W.widen (by omega) (by omega) (W.iret (v := 1) hx hb hr (fun t ht hW => ⟨⟨_, (cO, .long) :: t3, wl_o o cO h :: w3, rfl, ⟨h, rfl, fun z => absurd z (by decide), t3, w3, rfl, rfl, hK1⟩, by rw [ht]; exact hP3.comm, va_K.moved hW.alike (wl_K_app hKo hK3), by rw [hAe]; exact hD3.comm⟩, by rw [hAe]; exact hS.F ht⟩) hS.2.2 ld_L_result_15)
set_option maxHeartbeats 4000000 in
set_option maxRecDepth 100000 in
theorem ww_resultByte_ok {l : Launch} {D : va_G} {ka : ev_KA} {x0 : Nat} {KX K1 : Nat → wl_Y → va_W → Prop} {mc ms : Nat} (hRc : wl_Rc 3 KX) {r : Int32} (a1 : Int32) (a2 : Int32) (hM : wl_M l D ka ly_X11_resultByte (lw_w ly_X11_resultByte prog_1_method_12_code 4 (some .int)) 1900 80000 (KX x0) [.ref x0, .int a1, .int a2] (fun v t w => v = some (.int r) ∧ K1 x0 t w) mc ms) : wl_Wc l D ka ly_L_resultByte (lw_wH ly_L_resultByte method_9_code 5 (some .int) [(0, 10, 13, 19)]) x0 KX K1 [.int a1, .int a2] 0 r.toInt64 mc ms := by
  intro o cO h tys ws sz hW0
  obtain ⟨tys, ws, rfl, rfl, hK0⟩ := hW0
  obtain ⟨q0, fs, hq⟩ := hRc _ _ _ hK0
  show Met l ly_L_resultByte (lw_wH ly_L_resultByte method_9_code 5 (some .int) [(0, 10, 13, 19)]) _ (wl_Pc D ka _ _ sz [.ref x0, .int a1, .int a2, .ref o]) _ mc ms _
  refine va_MetW (cc := method_9_code) (maxL := 5) (ret := (some .int)) (hh := [(0, 10, 13, 19)]) (by decide) rfl ?_
  intro p e s m args below meth c s₁ B hml hv
  obtain ⟨rfl, hsz, hP, hK, hD0, hN, hCF, hE⟩ := hv
  subst hsz
  have hx := B.exec
  have hb := B.bytes
  have hr := B.returns
  have hts := atoms_spec (ws := lw_wH ly_L_resultByte method_9_code 5 (some .int) [(0, 10, 13, 19)]) B.pre
  have hown : s.vm.findClass "TableTongueLaw" = some m.cls := findClass_of_methodNamed B.named
  have hD := hD0.self (sz := s.heap.size)
  generalize hAe : va_A (wl_o o cO h :: ws) s.heap.size = A at hD hCF hE ⊢
  have hA : ∀ q : Nat, s.heap.size ≤ q → A q := fun q h => by rw [← hAe]; exact Or.inr h
  have hS : va_S A s.heap s.heap [] := va_S.rf
  have hP1 : va_P D al_cl (ws ++ [wl_o o cO h]) s.heap := va_P.comm (a := [wl_o o cO h]) hP
  have hD1 : va_D A (ws ++ [wl_o o cO h]) := va_D.comm (a := [wl_o o cO h]) hD
  obtain ⟨hKo, hKx⟩ := wl_K_cons hK
  have hl := lv_entry ([.ref x0, .int a1, .int a2, .ref o]) (n := 5) (Nat.le_of_ble_eq_true rfl)
  rw [lg_entry_eq]
  generalize (lg_sl ([.ref x0, .int a1, .int a2, .ref o]) ++ List.replicate (5 - (lg_sl ([.ref x0, .int a1, .int a2, .ref o])).length) Slot.unset).toArray = ls at hl ⊢
  have hl : lv_has ls 5 [(0, .ref x0), (1, .int a1), (2, .int a2), (3, .ref o)] := hl
  refine lv_aload_n hx hb ld_L_resultByte_0 rfl (lv_at hl 3 rfl) ?_
  refine lv_iconst (v := 0) hx hb ld_L_resultByte_1 (by decide) ?_
  refine lv_aload_n hx hb ld_L_resultByte_2 rfl (lv_at hl 0 rfl) ?_
  refine lv_iload_n hx hb ld_L_resultByte_3 rfl (lv_at hl 1 rfl) ?_
  refine lv_iload_n hx hb ld_L_resultByte_4 rfl (lv_at hl 2 rfl) ?_
  refine wl_callG (As := [.int a1, .int a2]) (rest := [.int 0, .ref o]) (C := "TableTongue") (own := "TableTongueLaw") (Ts := lw_wH ly_L_resultByte method_9_code 5 (some .int) [(0, 10, 13, 19)]) (wf := [wl_o o cO h]) ⟨hx, hb, hml, hown, hts⟩ hl.1 hN hCF hE hA hM hK0 hq rfl hKx hP1 hD1 hS ⟨callB_of 2 hts (lw_GoodInH (List.mem_cons_of_mem _ (lw_in 2921 (by decide +kernel) (by decide +kernel))) (by decide +kernel)) rfl rfl rfl (hts _ (List.mem_cons_of_mem _ (lw_in 394 (by decide +kernel) (by decide +kernel)))) (hts _ (List.mem_cons_of_mem _ (lw_in 2918 (by decide +kernel) (by decide +kernel)))) ⟨by decide, by decide, by decide +kernel⟩ ⟨Nat.le_of_ble_eq_true rfl, Nat.le_of_ble_eq_true rfl⟩, hts _ (List.mem_cons_of_mem _ (lw_in 2919 (by decide +kernel) (by decide +kernel))), hts _ (List.mem_cons_of_mem _ (lw_in 2920 (by decide +kernel) (by decide +kernel)))⟩ rfl ⟨by show 0 + mc ≤ mc; omega, by show 0 + ms ≤ ms; omega⟩ (Nat.le_of_ble_eq_true rfl) ld_L_resultByte_5 (fun v t3 w3 H locs hv hK3 hP3 hD3 hS => ?_)
  obtain ⟨rfl, hK1⟩ := hv
  refine lv_i2l (v := (r : Int32).toInt64) hx hb ld_L_resultByte_8 rfl ?_
  have hP4 : va_P D al_cl ([wl_o o cO h] ++ w3) H := hP3.comm
  have hD4 : va_D A ([wl_o o cO h] ++ w3) := hD3.comm
  refine va_last hx hb hKo hP4 hD4 hS 0 0 rfl rfl (show vp_in (nI 0) 1 from vp_in_nI (by decide) (by decide)) ld_L_resultByte_9 (fun H locs hP5 hD5 hS => ?_)
  refine lv_goto (tgt := 17) hx hb ld_L_resultByte_10 (by decide) ?_
  refine lv_iconst (v := 0) hx hb ld_L_resultByte_17 (by decide) ?_
  exact W.widen (by omega) (by omega) (W.iret (v := 0) hx hb hr (fun t ht hW => ⟨⟨_, (cO, .long) :: t3, wl_o o cO (vp_updL h (0 : Int32).toNatClampNeg (r.toInt64)) :: w3, rfl, ⟨vp_updL h (0 : Int32).toNatClampNeg (r.toInt64), rfl, fun _ => pk_uLs, t3, w3, rfl, rfl, hK1⟩, by rw [ht]; exact hP5, va_K.moved hW.alike (wl_K_app hKo hK3), by rw [hAe]; exact hD5⟩, by rw [hAe]; exact hS.F ht⟩) hS.2.2 ld_L_resultByte_18)
set_option maxHeartbeats 4000000 in
set_option maxRecDepth 100000 in
theorem ww_resultByte_bad {l : Launch} {D : va_G} {ka : ev_KA} {x0 : Nat} {KX K1 : Nat → wl_Y → va_W → Prop} {mc ms : Nat} (hRc : wl_Rc 3 KX) (a1 : Int32) (a2 : Int32) (hM : wl_TX l D ka ly_X11_resultByte (lw_w ly_X11_resultByte prog_1_method_12_code 4 (some .int)) 1900 80000 (KX x0) [.ref x0, .int a1, .int a2] "java/lang/IndexOutOfBoundsException" (K1 x0) mc ms) : wl_Wc l D ka ly_L_resultByte (lw_wH ly_L_resultByte method_9_code 5 (some .int) [(0, 10, 13, 19)]) x0 KX K1 [.int a1, .int a2] 1 0 mc ms := by
  intro o cO h tys ws sz hW0
  obtain ⟨tys, ws, rfl, rfl, hK0⟩ := hW0
  obtain ⟨q0, fs, hq⟩ := hRc _ _ _ hK0
  show Met l ly_L_resultByte (lw_wH ly_L_resultByte method_9_code 5 (some .int) [(0, 10, 13, 19)]) _ (wl_Pc D ka _ _ sz [.ref x0, .int a1, .int a2, .ref o]) _ mc ms _
  refine va_MetW (cc := method_9_code) (maxL := 5) (ret := (some .int)) (hh := [(0, 10, 13, 19)]) (by decide) rfl ?_
  intro p e s m args below meth c s₁ B hml hv
  obtain ⟨rfl, hsz, hP, hK, hD0, hN, hCF, hE⟩ := hv
  subst hsz
  have hx := B.exec
  have hb := B.bytes
  have hr := B.returns
  have hts := atoms_spec (ws := lw_wH ly_L_resultByte method_9_code 5 (some .int) [(0, 10, 13, 19)]) B.pre
  have hown : s.vm.findClass "TableTongueLaw" = some m.cls := findClass_of_methodNamed B.named
  have htab := vx_table (x := ly_L_resultByte) B (hts _ List.mem_cons_self)
  have hD := hD0.self (sz := s.heap.size)
  generalize hAe : va_A (wl_o o cO h :: ws) s.heap.size = A at hD hCF hE ⊢
  have hA : ∀ q : Nat, s.heap.size ≤ q → A q := fun q h => by rw [← hAe]; exact Or.inr h
  have hS : va_S A s.heap s.heap [] := va_S.rf
  have hP1 : va_P D al_cl (ws ++ [wl_o o cO h]) s.heap := va_P.comm (a := [wl_o o cO h]) hP
  have hD1 : va_D A (ws ++ [wl_o o cO h]) := va_D.comm (a := [wl_o o cO h]) hD
  obtain ⟨hKo, hKx⟩ := wl_K_cons hK
  have hl := lv_entry ([.ref x0, .int a1, .int a2, .ref o]) (n := 5) (Nat.le_of_ble_eq_true rfl)
  rw [lg_entry_eq]
  generalize (lg_sl ([.ref x0, .int a1, .int a2, .ref o]) ++ List.replicate (5 - (lg_sl ([.ref x0, .int a1, .int a2, .ref o])).length) Slot.unset).toArray = ls at hl ⊢
  have hl : lv_has ls 5 [(0, .ref x0), (1, .int a1), (2, .int a2), (3, .ref o)] := hl
  refine lv_aload_n hx hb ld_L_resultByte_0 rfl (lv_at hl 3 rfl) ?_
  refine lv_iconst (v := 0) hx hb ld_L_resultByte_1 (by decide) ?_
  refine lv_aload_n hx hb ld_L_resultByte_2 rfl (lv_at hl 0 rfl) ?_
  refine lv_iload_n hx hb ld_L_resultByte_3 rfl (lv_at hl 1 rfl) ?_
  refine lv_iload_n hx hb ld_L_resultByte_4 rfl (lv_at hl 2 rfl) ?_
  refine wl_callX (As := [.int a1, .int a2]) (rest := [.int 0, .ref o]) (C := "TableTongue") (own := "TableTongueLaw") (Ts := lw_wH ly_L_resultByte method_9_code 5 (some .int) [(0, 10, 13, 19)]) (wf := [wl_o o cO h]) ⟨hx, hb, hml, hown, hts⟩ hl.1 hN hCF hE hA hM hK0 hq rfl hKx hP1 hD1 hS ⟨callB_of 2 hts (lw_GoodInH (List.mem_cons_of_mem _ (lw_in 2921 (by decide +kernel) (by decide +kernel))) (by decide +kernel)) rfl rfl rfl (hts _ (List.mem_cons_of_mem _ (lw_in 394 (by decide +kernel) (by decide +kernel)))) (hts _ (List.mem_cons_of_mem _ (lw_in 2918 (by decide +kernel) (by decide +kernel)))) ⟨by decide, by decide, by decide +kernel⟩ ⟨Nat.le_of_ble_eq_true rfl, Nat.le_of_ble_eq_true rfl⟩, hts _ (List.mem_cons_of_mem _ (lw_in 2919 (by decide +kernel) (by decide +kernel))), hts _ (List.mem_cons_of_mem _ (lw_in 2920 (by decide +kernel) (by decide +kernel)))⟩ rfl ⟨by show 0 + mc ≤ mc; omega, by show 0 + ms ≤ ms; omega⟩ (Nat.le_of_ble_eq_true rfl) ld_L_resultByte_5 (fun ce q9 t3 w3 H locs hK1 hK3 hP3 hD3 hS hce hcv hcl => ?_)
  refine vx_catch (own := "TableTongueLaw") (name := "java/lang/IndexOutOfBoundsException") hown [] ⟨0, 10, 13, 19⟩ [] (htab.trans rfl) (fun z hz => nomatch hz) (by decide) (by decide) (hts _ (List.mem_cons_of_mem _ (lw_in 2118 (by decide +kernel) (by decide +kernel)))) (va_Nw.use rfl (hE.1.2.2 _ (List.mem_of_getElem? (i := 2125) (by decide +kernel)) rfl)) hce hcv hcl ?_
  refine lv_astore (lv' := [(4, .ref q9), (0, .ref x0), (1, .int a1), (2, .int a2), (3, .ref o)]) hx hb ld_L_resultByte_13 hl (by decide) rfl (fun ls hl => ?_)
  refine lv_iconst (v := 1) hx hb ld_L_resultByte_15 (by decide) ?_
  exact W.widen (by omega) (by omega) (W.iret (v := 1) hx hb hr (fun t ht hW => ⟨⟨_, (cO, .long) :: t3, wl_o o cO h :: w3, rfl, ⟨h, rfl, fun z => absurd z (by decide), t3, w3, rfl, rfl, hK1⟩, by rw [ht]; exact hP3.comm, va_K.moved hW.alike (wl_K_app hKo hK3), by rw [hAe]; exact hD3.comm⟩, by rw [hAe]; exact hS.F ht⟩) hS.2.2 ld_L_resultByte_16)
set_option maxHeartbeats 4000000 in
set_option maxRecDepth 100000 in
theorem ww_output_ok {l : Launch} {D : va_G} {ka : ev_KA} {x0 : Nat} {KX K1 : Nat → wl_Y → va_W → Prop} {mc ms : Nat} (hRc : wl_Rc 3 KX) {r : Int32} (a1 : Int32) (hM : wl_M l D ka ly_X11_output (lw_w ly_X11_output prog_1_method_14_code 2 (some .int)) 1900 80000 (KX x0) [.ref x0, .int a1] (fun v t w => v = some (.int r) ∧ K1 x0 t w) mc ms) : wl_Wc l D ka ly_L_output (lw_wH ly_L_output method_10_code 4 (some .int) [(0, 9, 12, 19)]) x0 KX K1 [.int a1] 0 r.toInt64 mc ms := by
  intro o cO h tys ws sz hW0
  obtain ⟨tys, ws, rfl, rfl, hK0⟩ := hW0
  obtain ⟨q0, fs, hq⟩ := hRc _ _ _ hK0
  show Met l ly_L_output (lw_wH ly_L_output method_10_code 4 (some .int) [(0, 9, 12, 19)]) _ (wl_Pc D ka _ _ sz [.ref x0, .int a1, .ref o]) _ mc ms _
  refine va_MetW (cc := method_10_code) (maxL := 4) (ret := (some .int)) (hh := [(0, 9, 12, 19)]) (by decide) rfl ?_
  intro p e s m args below meth c s₁ B hml hv
  obtain ⟨rfl, hsz, hP, hK, hD0, hN, hCF, hE⟩ := hv
  subst hsz
  have hx := B.exec
  have hb := B.bytes
  have hr := B.returns
  have hts := atoms_spec (ws := lw_wH ly_L_output method_10_code 4 (some .int) [(0, 9, 12, 19)]) B.pre
  have hown : s.vm.findClass "TableTongueLaw" = some m.cls := findClass_of_methodNamed B.named
  have hD := hD0.self (sz := s.heap.size)
  generalize hAe : va_A (wl_o o cO h :: ws) s.heap.size = A at hD hCF hE ⊢
  have hA : ∀ q : Nat, s.heap.size ≤ q → A q := fun q h => by rw [← hAe]; exact Or.inr h
  have hS : va_S A s.heap s.heap [] := va_S.rf
  have hP1 : va_P D al_cl (ws ++ [wl_o o cO h]) s.heap := va_P.comm (a := [wl_o o cO h]) hP
  have hD1 : va_D A (ws ++ [wl_o o cO h]) := va_D.comm (a := [wl_o o cO h]) hD
  obtain ⟨hKo, hKx⟩ := wl_K_cons hK
  have hl := lv_entry ([.ref x0, .int a1, .ref o]) (n := 4) (Nat.le_of_ble_eq_true rfl)
  rw [lg_entry_eq]
  generalize (lg_sl ([.ref x0, .int a1, .ref o]) ++ List.replicate (4 - (lg_sl ([.ref x0, .int a1, .ref o])).length) Slot.unset).toArray = ls at hl ⊢
  have hl : lv_has ls 4 [(0, .ref x0), (1, .int a1), (2, .ref o)] := hl
  refine lv_aload_n hx hb ld_L_output_0 rfl (lv_at hl 2 rfl) ?_
  refine lv_iconst (v := 0) hx hb ld_L_output_1 (by decide) ?_
  refine lv_aload_n hx hb ld_L_output_2 rfl (lv_at hl 0 rfl) ?_
  refine lv_iload_n hx hb ld_L_output_3 rfl (lv_at hl 1 rfl) ?_
  refine wl_callG (As := [.int a1]) (rest := [.int 0, .ref o]) (C := "TableTongue") (own := "TableTongueLaw") (Ts := lw_wH ly_L_output method_10_code 4 (some .int) [(0, 9, 12, 19)]) (wf := [wl_o o cO h]) ⟨hx, hb, hml, hown, hts⟩ hl.1 hN hCF hE hA hM hK0 hq rfl hKx hP1 hD1 hS ⟨callB_of 1 hts (lw_GoodInH (List.mem_cons_of_mem _ (lw_in 2929 (by decide +kernel) (by decide +kernel))) (by decide +kernel)) rfl rfl rfl (hts _ (List.mem_cons_of_mem _ (lw_in 394 (by decide +kernel) (by decide +kernel)))) (hts _ (List.mem_cons_of_mem _ (lw_in 2926 (by decide +kernel) (by decide +kernel)))) ⟨by decide, by decide, by decide +kernel⟩ ⟨Nat.le_of_ble_eq_true rfl, Nat.le_of_ble_eq_true rfl⟩, hts _ (List.mem_cons_of_mem _ (lw_in 2927 (by decide +kernel) (by decide +kernel))), hts _ (List.mem_cons_of_mem _ (lw_in 2928 (by decide +kernel) (by decide +kernel)))⟩ rfl ⟨by show 0 + mc ≤ mc; omega, by show 0 + ms ≤ ms; omega⟩ (Nat.le_of_ble_eq_true rfl) ld_L_output_4 (fun v t3 w3 H locs hv hK3 hP3 hD3 hS => ?_)
  obtain ⟨rfl, hK1⟩ := hv
  refine lv_i2l (v := (r : Int32).toInt64) hx hb ld_L_output_7 rfl ?_
  have hP4 : va_P D al_cl ([wl_o o cO h] ++ w3) H := hP3.comm
  have hD4 : va_D A ([wl_o o cO h] ++ w3) := hD3.comm
  refine va_last hx hb hKo hP4 hD4 hS 0 0 rfl rfl (show vp_in (nI 0) 1 from vp_in_nI (by decide) (by decide)) ld_L_output_8 (fun H locs hP5 hD5 hS => ?_)
  refine lv_goto (tgt := 15) hx hb ld_L_output_9 (by decide) ?_
  refine lv_iconst (v := 0) hx hb ld_L_output_15 (by decide) ?_
  exact W.widen (by omega) (by omega) (W.iret (v := 0) hx hb hr (fun t ht hW => ⟨⟨_, (cO, .long) :: t3, wl_o o cO (vp_updL h (0 : Int32).toNatClampNeg (r.toInt64)) :: w3, rfl, ⟨vp_updL h (0 : Int32).toNatClampNeg (r.toInt64), rfl, fun _ => pk_uLs, t3, w3, rfl, rfl, hK1⟩, by rw [ht]; exact hP5, va_K.moved hW.alike (wl_K_app hKo hK3), by rw [hAe]; exact hD5⟩, by rw [hAe]; exact hS.F ht⟩) hS.2.2 ld_L_output_16)
set_option maxHeartbeats 4000000 in
set_option maxRecDepth 100000 in
theorem ww_output_bad {l : Launch} {D : va_G} {ka : ev_KA} {x0 : Nat} {KX K1 : Nat → wl_Y → va_W → Prop} {mc ms : Nat} (hRc : wl_Rc 3 KX) (a1 : Int32) (hM : wl_TX l D ka ly_X11_output (lw_w ly_X11_output prog_1_method_14_code 2 (some .int)) 1900 80000 (KX x0) [.ref x0, .int a1] "java/lang/IndexOutOfBoundsException" (K1 x0) mc ms) : wl_Wc l D ka ly_L_output (lw_wH ly_L_output method_10_code 4 (some .int) [(0, 9, 12, 19)]) x0 KX K1 [.int a1] 1 0 mc ms := by
  intro o cO h tys ws sz hW0
  obtain ⟨tys, ws, rfl, rfl, hK0⟩ := hW0
  obtain ⟨q0, fs, hq⟩ := hRc _ _ _ hK0
  show Met l ly_L_output (lw_wH ly_L_output method_10_code 4 (some .int) [(0, 9, 12, 19)]) _ (wl_Pc D ka _ _ sz [.ref x0, .int a1, .ref o]) _ mc ms _
  refine va_MetW (cc := method_10_code) (maxL := 4) (ret := (some .int)) (hh := [(0, 9, 12, 19)]) (by decide) rfl ?_
  intro p e s m args below meth c s₁ B hml hv
  obtain ⟨rfl, hsz, hP, hK, hD0, hN, hCF, hE⟩ := hv
  subst hsz
  have hx := B.exec
  have hb := B.bytes
  have hr := B.returns
  have hts := atoms_spec (ws := lw_wH ly_L_output method_10_code 4 (some .int) [(0, 9, 12, 19)]) B.pre
  have hown : s.vm.findClass "TableTongueLaw" = some m.cls := findClass_of_methodNamed B.named
  have htab := vx_table (x := ly_L_output) B (hts _ List.mem_cons_self)
  have hD := hD0.self (sz := s.heap.size)
  generalize hAe : va_A (wl_o o cO h :: ws) s.heap.size = A at hD hCF hE ⊢
  have hA : ∀ q : Nat, s.heap.size ≤ q → A q := fun q h => by rw [← hAe]; exact Or.inr h
  have hS : va_S A s.heap s.heap [] := va_S.rf
  have hP1 : va_P D al_cl (ws ++ [wl_o o cO h]) s.heap := va_P.comm (a := [wl_o o cO h]) hP
  have hD1 : va_D A (ws ++ [wl_o o cO h]) := va_D.comm (a := [wl_o o cO h]) hD
  obtain ⟨hKo, hKx⟩ := wl_K_cons hK
  have hl := lv_entry ([.ref x0, .int a1, .ref o]) (n := 4) (Nat.le_of_ble_eq_true rfl)
  rw [lg_entry_eq]
  generalize (lg_sl ([.ref x0, .int a1, .ref o]) ++ List.replicate (4 - (lg_sl ([.ref x0, .int a1, .ref o])).length) Slot.unset).toArray = ls at hl ⊢
  have hl : lv_has ls 4 [(0, .ref x0), (1, .int a1), (2, .ref o)] := hl
  refine lv_aload_n hx hb ld_L_output_0 rfl (lv_at hl 2 rfl) ?_
  refine lv_iconst (v := 0) hx hb ld_L_output_1 (by decide) ?_
  refine lv_aload_n hx hb ld_L_output_2 rfl (lv_at hl 0 rfl) ?_
  refine lv_iload_n hx hb ld_L_output_3 rfl (lv_at hl 1 rfl) ?_
  refine wl_callX (As := [.int a1]) (rest := [.int 0, .ref o]) (C := "TableTongue") (own := "TableTongueLaw") (Ts := lw_wH ly_L_output method_10_code 4 (some .int) [(0, 9, 12, 19)]) (wf := [wl_o o cO h]) ⟨hx, hb, hml, hown, hts⟩ hl.1 hN hCF hE hA hM hK0 hq rfl hKx hP1 hD1 hS ⟨callB_of 1 hts (lw_GoodInH (List.mem_cons_of_mem _ (lw_in 2929 (by decide +kernel) (by decide +kernel))) (by decide +kernel)) rfl rfl rfl (hts _ (List.mem_cons_of_mem _ (lw_in 394 (by decide +kernel) (by decide +kernel)))) (hts _ (List.mem_cons_of_mem _ (lw_in 2926 (by decide +kernel) (by decide +kernel)))) ⟨by decide, by decide, by decide +kernel⟩ ⟨Nat.le_of_ble_eq_true rfl, Nat.le_of_ble_eq_true rfl⟩, hts _ (List.mem_cons_of_mem _ (lw_in 2927 (by decide +kernel) (by decide +kernel))), hts _ (List.mem_cons_of_mem _ (lw_in 2928 (by decide +kernel) (by decide +kernel)))⟩ rfl ⟨by show 0 + mc ≤ mc; omega, by show 0 + ms ≤ ms; omega⟩ (Nat.le_of_ble_eq_true rfl) ld_L_output_4 (fun ce q9 t3 w3 H locs hK1 hK3 hP3 hD3 hS hce hcv hcl => ?_)
  refine vx_catch (own := "TableTongueLaw") (name := "java/lang/IndexOutOfBoundsException") hown [] ⟨0, 9, 12, 19⟩ [] (htab.trans rfl) (fun z hz => nomatch hz) (by decide) (by decide) (hts _ (List.mem_cons_of_mem _ (lw_in 2118 (by decide +kernel) (by decide +kernel)))) (va_Nw.use rfl (hE.1.2.2 _ (List.mem_of_getElem? (i := 2125) (by decide +kernel)) rfl)) hce hcv hcl ?_
  refine lv_astore_n (lv' := [(3, .ref q9), (0, .ref x0), (1, .int a1), (2, .ref o)]) hx hb ld_L_output_12 rfl hl (by decide) rfl (fun ls hl => ?_)
  refine lv_iconst (v := 1) hx hb ld_L_output_13 (by decide) ?_
  exact W.widen (by omega) (by omega) (W.iret (v := 1) hx hb hr (fun t ht hW => ⟨⟨_, (cO, .long) :: t3, wl_o o cO h :: w3, rfl, ⟨h, rfl, fun z => absurd z (by decide), t3, w3, rfl, rfl, hK1⟩, by rw [ht]; exact hP3.comm, va_K.moved hW.alike (wl_K_app hKo hK3), by rw [hAe]; exact hD3.comm⟩, by rw [hAe]; exact hS.F ht⟩) hS.2.2 ld_L_output_14)
set_option maxHeartbeats 4000000 in
set_option maxRecDepth 100000 in
theorem ww_count_ok {l : Launch} {D : va_G} {ka : ev_KA} {x0 : Nat} {KX K1 : Nat → wl_Y → va_W → Prop} {mc ms : Nat} (hRc : wl_Rc 3 KX) {r : Int32} (a1 : Int32) (hM : wl_M l D ka ly_X11_count (lw_w ly_X11_count prog_1_method_15_code 2 (some .int)) 1900 80000 (KX x0) [.ref x0, .int a1] (fun v t w => v = some (.int r) ∧ K1 x0 t w) mc ms) : wl_Wc l D ka ly_L_count (lw_wH ly_L_count method_11_code 4 (some .int) [(0, 9, 12, 19)]) x0 KX K1 [.int a1] 0 r.toInt64 mc ms := by
  intro o cO h tys ws sz hW0
  obtain ⟨tys, ws, rfl, rfl, hK0⟩ := hW0
  obtain ⟨q0, fs, hq⟩ := hRc _ _ _ hK0
  show Met l ly_L_count (lw_wH ly_L_count method_11_code 4 (some .int) [(0, 9, 12, 19)]) _ (wl_Pc D ka _ _ sz [.ref x0, .int a1, .ref o]) _ mc ms _
  refine va_MetW (cc := method_11_code) (maxL := 4) (ret := (some .int)) (hh := [(0, 9, 12, 19)]) (by decide) rfl ?_
  intro p e s m args below meth c s₁ B hml hv
  obtain ⟨rfl, hsz, hP, hK, hD0, hN, hCF, hE⟩ := hv
  subst hsz
  have hx := B.exec
  have hb := B.bytes
  have hr := B.returns
  have hts := atoms_spec (ws := lw_wH ly_L_count method_11_code 4 (some .int) [(0, 9, 12, 19)]) B.pre
  have hown : s.vm.findClass "TableTongueLaw" = some m.cls := findClass_of_methodNamed B.named
  have hD := hD0.self (sz := s.heap.size)
  generalize hAe : va_A (wl_o o cO h :: ws) s.heap.size = A at hD hCF hE ⊢
  have hA : ∀ q : Nat, s.heap.size ≤ q → A q := fun q h => by rw [← hAe]; exact Or.inr h
  have hS : va_S A s.heap s.heap [] := va_S.rf
  have hP1 : va_P D al_cl (ws ++ [wl_o o cO h]) s.heap := va_P.comm (a := [wl_o o cO h]) hP
  have hD1 : va_D A (ws ++ [wl_o o cO h]) := va_D.comm (a := [wl_o o cO h]) hD
  obtain ⟨hKo, hKx⟩ := wl_K_cons hK
  have hl := lv_entry ([.ref x0, .int a1, .ref o]) (n := 4) (Nat.le_of_ble_eq_true rfl)
  rw [lg_entry_eq]
  generalize (lg_sl ([.ref x0, .int a1, .ref o]) ++ List.replicate (4 - (lg_sl ([.ref x0, .int a1, .ref o])).length) Slot.unset).toArray = ls at hl ⊢
  have hl : lv_has ls 4 [(0, .ref x0), (1, .int a1), (2, .ref o)] := hl
  refine lv_aload_n hx hb ld_L_count_0 rfl (lv_at hl 2 rfl) ?_
  refine lv_iconst (v := 0) hx hb ld_L_count_1 (by decide) ?_
  refine lv_aload_n hx hb ld_L_count_2 rfl (lv_at hl 0 rfl) ?_
  refine lv_iload_n hx hb ld_L_count_3 rfl (lv_at hl 1 rfl) ?_
  refine wl_callG (As := [.int a1]) (rest := [.int 0, .ref o]) (C := "TableTongue") (own := "TableTongueLaw") (Ts := lw_wH ly_L_count method_11_code 4 (some .int) [(0, 9, 12, 19)]) (wf := [wl_o o cO h]) ⟨hx, hb, hml, hown, hts⟩ hl.1 hN hCF hE hA hM hK0 hq rfl hKx hP1 hD1 hS ⟨callB_of 1 hts (lw_GoodInH (List.mem_cons_of_mem _ (lw_in 2937 (by decide +kernel) (by decide +kernel))) (by decide +kernel)) rfl rfl rfl (hts _ (List.mem_cons_of_mem _ (lw_in 394 (by decide +kernel) (by decide +kernel)))) (hts _ (List.mem_cons_of_mem _ (lw_in 2934 (by decide +kernel) (by decide +kernel)))) ⟨by decide, by decide, by decide +kernel⟩ ⟨Nat.le_of_ble_eq_true rfl, Nat.le_of_ble_eq_true rfl⟩, hts _ (List.mem_cons_of_mem _ (lw_in 2935 (by decide +kernel) (by decide +kernel))), hts _ (List.mem_cons_of_mem _ (lw_in 2936 (by decide +kernel) (by decide +kernel)))⟩ rfl ⟨by show 0 + mc ≤ mc; omega, by show 0 + ms ≤ ms; omega⟩ (Nat.le_of_ble_eq_true rfl) ld_L_count_4 (fun v t3 w3 H locs hv hK3 hP3 hD3 hS => ?_)
  obtain ⟨rfl, hK1⟩ := hv
  refine lv_i2l (v := (r : Int32).toInt64) hx hb ld_L_count_7 rfl ?_
  have hP4 : va_P D al_cl ([wl_o o cO h] ++ w3) H := hP3.comm
  have hD4 : va_D A ([wl_o o cO h] ++ w3) := hD3.comm
  refine va_last hx hb hKo hP4 hD4 hS 0 0 rfl rfl (show vp_in (nI 0) 1 from vp_in_nI (by decide) (by decide)) ld_L_count_8 (fun H locs hP5 hD5 hS => ?_)
  refine lv_goto (tgt := 15) hx hb ld_L_count_9 (by decide) ?_
  refine lv_iconst (v := 0) hx hb ld_L_count_15 (by decide) ?_
  exact W.widen (by omega) (by omega) (W.iret (v := 0) hx hb hr (fun t ht hW => ⟨⟨_, (cO, .long) :: t3, wl_o o cO (vp_updL h (0 : Int32).toNatClampNeg (r.toInt64)) :: w3, rfl, ⟨vp_updL h (0 : Int32).toNatClampNeg (r.toInt64), rfl, fun _ => pk_uLs, t3, w3, rfl, rfl, hK1⟩, by rw [ht]; exact hP5, va_K.moved hW.alike (wl_K_app hKo hK3), by rw [hAe]; exact hD5⟩, by rw [hAe]; exact hS.F ht⟩) hS.2.2 ld_L_count_16)
set_option maxHeartbeats 4000000 in
set_option maxRecDepth 100000 in
theorem ww_count_bad {l : Launch} {D : va_G} {ka : ev_KA} {x0 : Nat} {KX K1 : Nat → wl_Y → va_W → Prop} {mc ms : Nat} (hRc : wl_Rc 3 KX) (a1 : Int32) (hM : wl_TX l D ka ly_X11_count (lw_w ly_X11_count prog_1_method_15_code 2 (some .int)) 1900 80000 (KX x0) [.ref x0, .int a1] "java/lang/IndexOutOfBoundsException" (K1 x0) mc ms) : wl_Wc l D ka ly_L_count (lw_wH ly_L_count method_11_code 4 (some .int) [(0, 9, 12, 19)]) x0 KX K1 [.int a1] 1 0 mc ms := by
  intro o cO h tys ws sz hW0
  obtain ⟨tys, ws, rfl, rfl, hK0⟩ := hW0
  obtain ⟨q0, fs, hq⟩ := hRc _ _ _ hK0
  show Met l ly_L_count (lw_wH ly_L_count method_11_code 4 (some .int) [(0, 9, 12, 19)]) _ (wl_Pc D ka _ _ sz [.ref x0, .int a1, .ref o]) _ mc ms _
  refine va_MetW (cc := method_11_code) (maxL := 4) (ret := (some .int)) (hh := [(0, 9, 12, 19)]) (by decide) rfl ?_
  intro p e s m args below meth c s₁ B hml hv
  obtain ⟨rfl, hsz, hP, hK, hD0, hN, hCF, hE⟩ := hv
  subst hsz
  have hx := B.exec
  have hb := B.bytes
  have hr := B.returns
  have hts := atoms_spec (ws := lw_wH ly_L_count method_11_code 4 (some .int) [(0, 9, 12, 19)]) B.pre
  have hown : s.vm.findClass "TableTongueLaw" = some m.cls := findClass_of_methodNamed B.named
  have htab := vx_table (x := ly_L_count) B (hts _ List.mem_cons_self)
  have hD := hD0.self (sz := s.heap.size)
  generalize hAe : va_A (wl_o o cO h :: ws) s.heap.size = A at hD hCF hE ⊢
  have hA : ∀ q : Nat, s.heap.size ≤ q → A q := fun q h => by rw [← hAe]; exact Or.inr h
  have hS : va_S A s.heap s.heap [] := va_S.rf
  have hP1 : va_P D al_cl (ws ++ [wl_o o cO h]) s.heap := va_P.comm (a := [wl_o o cO h]) hP
  have hD1 : va_D A (ws ++ [wl_o o cO h]) := va_D.comm (a := [wl_o o cO h]) hD
  obtain ⟨hKo, hKx⟩ := wl_K_cons hK
  have hl := lv_entry ([.ref x0, .int a1, .ref o]) (n := 4) (Nat.le_of_ble_eq_true rfl)
  rw [lg_entry_eq]
  generalize (lg_sl ([.ref x0, .int a1, .ref o]) ++ List.replicate (4 - (lg_sl ([.ref x0, .int a1, .ref o])).length) Slot.unset).toArray = ls at hl ⊢
  have hl : lv_has ls 4 [(0, .ref x0), (1, .int a1), (2, .ref o)] := hl
  refine lv_aload_n hx hb ld_L_count_0 rfl (lv_at hl 2 rfl) ?_
  refine lv_iconst (v := 0) hx hb ld_L_count_1 (by decide) ?_
  refine lv_aload_n hx hb ld_L_count_2 rfl (lv_at hl 0 rfl) ?_
  refine lv_iload_n hx hb ld_L_count_3 rfl (lv_at hl 1 rfl) ?_
  refine wl_callX (As := [.int a1]) (rest := [.int 0, .ref o]) (C := "TableTongue") (own := "TableTongueLaw") (Ts := lw_wH ly_L_count method_11_code 4 (some .int) [(0, 9, 12, 19)]) (wf := [wl_o o cO h]) ⟨hx, hb, hml, hown, hts⟩ hl.1 hN hCF hE hA hM hK0 hq rfl hKx hP1 hD1 hS ⟨callB_of 1 hts (lw_GoodInH (List.mem_cons_of_mem _ (lw_in 2937 (by decide +kernel) (by decide +kernel))) (by decide +kernel)) rfl rfl rfl (hts _ (List.mem_cons_of_mem _ (lw_in 394 (by decide +kernel) (by decide +kernel)))) (hts _ (List.mem_cons_of_mem _ (lw_in 2934 (by decide +kernel) (by decide +kernel)))) ⟨by decide, by decide, by decide +kernel⟩ ⟨Nat.le_of_ble_eq_true rfl, Nat.le_of_ble_eq_true rfl⟩, hts _ (List.mem_cons_of_mem _ (lw_in 2935 (by decide +kernel) (by decide +kernel))), hts _ (List.mem_cons_of_mem _ (lw_in 2936 (by decide +kernel) (by decide +kernel)))⟩ rfl ⟨by show 0 + mc ≤ mc; omega, by show 0 + ms ≤ ms; omega⟩ (Nat.le_of_ble_eq_true rfl) ld_L_count_4 (fun ce q9 t3 w3 H locs hK1 hK3 hP3 hD3 hS hce hcv hcl => ?_)
  refine vx_catch (own := "TableTongueLaw") (name := "java/lang/IndexOutOfBoundsException") hown [] ⟨0, 9, 12, 19⟩ [] (htab.trans rfl) (fun z hz => nomatch hz) (by decide) (by decide) (hts _ (List.mem_cons_of_mem _ (lw_in 2118 (by decide +kernel) (by decide +kernel)))) (va_Nw.use rfl (hE.1.2.2 _ (List.mem_of_getElem? (i := 2125) (by decide +kernel)) rfl)) hce hcv hcl ?_
  refine lv_astore_n (lv' := [(3, .ref q9), (0, .ref x0), (1, .int a1), (2, .ref o)]) hx hb ld_L_count_12 rfl hl (by decide) rfl (fun ls hl => ?_)
  refine lv_iconst (v := 1) hx hb ld_L_count_13 (by decide) ?_
  exact W.widen (by omega) (by omega) (W.iret (v := 1) hx hb hr (fun t ht hW => ⟨⟨_, (cO, .long) :: t3, wl_o o cO h :: w3, rfl, ⟨h, rfl, fun z => absurd z (by decide), t3, w3, rfl, rfl, hK1⟩, by rw [ht]; exact hP3.comm, va_K.moved hW.alike (wl_K_app hKo hK3), by rw [hAe]; exact hD3.comm⟩, by rw [hAe]; exact hS.F ht⟩) hS.2.2 ld_L_count_14)
set_option maxHeartbeats 4000000 in
set_option maxRecDepth 100000 in
theorem ww_object_ok {l : Launch} {D : va_G} {ka : ev_KA} {x0 : Nat} {KX K1 : Nat → wl_Y → va_W → Prop} {mc ms : Nat} (hRc : wl_Rc 3 KX) {r : Int32} (a1 : Int32) (a2 : Int32) (hM : wl_M l D ka ly_X11_object (lw_w ly_X11_object prog_1_method_16_code 4 (some .int)) 1900 80000 (KX x0) [.ref x0, .int a1, .int a2] (fun v t w => v = some (.int r) ∧ K1 x0 t w) mc ms) : wl_Wc l D ka ly_L_object (lw_wH ly_L_object method_12_code 5 (some .int) [(0, 10, 13, 19)]) x0 KX K1 [.int a1, .int a2] 0 r.toInt64 mc ms := by
  intro o cO h tys ws sz hW0
  obtain ⟨tys, ws, rfl, rfl, hK0⟩ := hW0
  obtain ⟨q0, fs, hq⟩ := hRc _ _ _ hK0
  show Met l ly_L_object (lw_wH ly_L_object method_12_code 5 (some .int) [(0, 10, 13, 19)]) _ (wl_Pc D ka _ _ sz [.ref x0, .int a1, .int a2, .ref o]) _ mc ms _
  refine va_MetW (cc := method_12_code) (maxL := 5) (ret := (some .int)) (hh := [(0, 10, 13, 19)]) (by decide) rfl ?_
  intro p e s m args below meth c s₁ B hml hv
  obtain ⟨rfl, hsz, hP, hK, hD0, hN, hCF, hE⟩ := hv
  subst hsz
  have hx := B.exec
  have hb := B.bytes
  have hr := B.returns
  have hts := atoms_spec (ws := lw_wH ly_L_object method_12_code 5 (some .int) [(0, 10, 13, 19)]) B.pre
  have hown : s.vm.findClass "TableTongueLaw" = some m.cls := findClass_of_methodNamed B.named
  have hD := hD0.self (sz := s.heap.size)
  generalize hAe : va_A (wl_o o cO h :: ws) s.heap.size = A at hD hCF hE ⊢
  have hA : ∀ q : Nat, s.heap.size ≤ q → A q := fun q h => by rw [← hAe]; exact Or.inr h
  have hS : va_S A s.heap s.heap [] := va_S.rf
  have hP1 : va_P D al_cl (ws ++ [wl_o o cO h]) s.heap := va_P.comm (a := [wl_o o cO h]) hP
  have hD1 : va_D A (ws ++ [wl_o o cO h]) := va_D.comm (a := [wl_o o cO h]) hD
  obtain ⟨hKo, hKx⟩ := wl_K_cons hK
  have hl := lv_entry ([.ref x0, .int a1, .int a2, .ref o]) (n := 5) (Nat.le_of_ble_eq_true rfl)
  rw [lg_entry_eq]
  generalize (lg_sl ([.ref x0, .int a1, .int a2, .ref o]) ++ List.replicate (5 - (lg_sl ([.ref x0, .int a1, .int a2, .ref o])).length) Slot.unset).toArray = ls at hl ⊢
  have hl : lv_has ls 5 [(0, .ref x0), (1, .int a1), (2, .int a2), (3, .ref o)] := hl
  refine lv_aload_n hx hb ld_L_object_0 rfl (lv_at hl 3 rfl) ?_
  refine lv_iconst (v := 0) hx hb ld_L_object_1 (by decide) ?_
  refine lv_aload_n hx hb ld_L_object_2 rfl (lv_at hl 0 rfl) ?_
  refine lv_iload_n hx hb ld_L_object_3 rfl (lv_at hl 1 rfl) ?_
  refine lv_iload_n hx hb ld_L_object_4 rfl (lv_at hl 2 rfl) ?_
  refine wl_callG (As := [.int a1, .int a2]) (rest := [.int 0, .ref o]) (C := "TableTongue") (own := "TableTongueLaw") (Ts := lw_wH ly_L_object method_12_code 5 (some .int) [(0, 10, 13, 19)]) (wf := [wl_o o cO h]) ⟨hx, hb, hml, hown, hts⟩ hl.1 hN hCF hE hA hM hK0 hq rfl hKx hP1 hD1 hS ⟨callB_of 2 hts (lw_GoodInH (List.mem_cons_of_mem _ (lw_in 2944 (by decide +kernel) (by decide +kernel))) (by decide +kernel)) rfl rfl rfl (hts _ (List.mem_cons_of_mem _ (lw_in 394 (by decide +kernel) (by decide +kernel)))) (hts _ (List.mem_cons_of_mem _ (lw_in 2941 (by decide +kernel) (by decide +kernel)))) ⟨by decide, by decide, by decide +kernel⟩ ⟨Nat.le_of_ble_eq_true rfl, Nat.le_of_ble_eq_true rfl⟩, hts _ (List.mem_cons_of_mem _ (lw_in 2942 (by decide +kernel) (by decide +kernel))), hts _ (List.mem_cons_of_mem _ (lw_in 2943 (by decide +kernel) (by decide +kernel)))⟩ rfl ⟨by show 0 + mc ≤ mc; omega, by show 0 + ms ≤ ms; omega⟩ (Nat.le_of_ble_eq_true rfl) ld_L_object_5 (fun v t3 w3 H locs hv hK3 hP3 hD3 hS => ?_)
  obtain ⟨rfl, hK1⟩ := hv
  refine lv_i2l (v := (r : Int32).toInt64) hx hb ld_L_object_8 rfl ?_
  have hP4 : va_P D al_cl ([wl_o o cO h] ++ w3) H := hP3.comm
  have hD4 : va_D A ([wl_o o cO h] ++ w3) := hD3.comm
  refine va_last hx hb hKo hP4 hD4 hS 0 0 rfl rfl (show vp_in (nI 0) 1 from vp_in_nI (by decide) (by decide)) ld_L_object_9 (fun H locs hP5 hD5 hS => ?_)
  refine lv_goto (tgt := 17) hx hb ld_L_object_10 (by decide) ?_
  refine lv_iconst (v := 0) hx hb ld_L_object_17 (by decide) ?_
  exact W.widen (by omega) (by omega) (W.iret (v := 0) hx hb hr (fun t ht hW => ⟨⟨_, (cO, .long) :: t3, wl_o o cO (vp_updL h (0 : Int32).toNatClampNeg (r.toInt64)) :: w3, rfl, ⟨vp_updL h (0 : Int32).toNatClampNeg (r.toInt64), rfl, fun _ => pk_uLs, t3, w3, rfl, rfl, hK1⟩, by rw [ht]; exact hP5, va_K.moved hW.alike (wl_K_app hKo hK3), by rw [hAe]; exact hD5⟩, by rw [hAe]; exact hS.F ht⟩) hS.2.2 ld_L_object_18)
set_option maxHeartbeats 4000000 in
set_option maxRecDepth 100000 in
theorem ww_object_bad {l : Launch} {D : va_G} {ka : ev_KA} {x0 : Nat} {KX K1 : Nat → wl_Y → va_W → Prop} {mc ms : Nat} (hRc : wl_Rc 3 KX) (a1 : Int32) (a2 : Int32) (hM : wl_TX l D ka ly_X11_object (lw_w ly_X11_object prog_1_method_16_code 4 (some .int)) 1900 80000 (KX x0) [.ref x0, .int a1, .int a2] "java/lang/IndexOutOfBoundsException" (K1 x0) mc ms) : wl_Wc l D ka ly_L_object (lw_wH ly_L_object method_12_code 5 (some .int) [(0, 10, 13, 19)]) x0 KX K1 [.int a1, .int a2] 1 0 mc ms := by
  intro o cO h tys ws sz hW0
  obtain ⟨tys, ws, rfl, rfl, hK0⟩ := hW0
  obtain ⟨q0, fs, hq⟩ := hRc _ _ _ hK0
  show Met l ly_L_object (lw_wH ly_L_object method_12_code 5 (some .int) [(0, 10, 13, 19)]) _ (wl_Pc D ka _ _ sz [.ref x0, .int a1, .int a2, .ref o]) _ mc ms _
  refine va_MetW (cc := method_12_code) (maxL := 5) (ret := (some .int)) (hh := [(0, 10, 13, 19)]) (by decide) rfl ?_
  intro p e s m args below meth c s₁ B hml hv
  obtain ⟨rfl, hsz, hP, hK, hD0, hN, hCF, hE⟩ := hv
  subst hsz
  have hx := B.exec
  have hb := B.bytes
  have hr := B.returns
  have hts := atoms_spec (ws := lw_wH ly_L_object method_12_code 5 (some .int) [(0, 10, 13, 19)]) B.pre
  have hown : s.vm.findClass "TableTongueLaw" = some m.cls := findClass_of_methodNamed B.named
  have htab := vx_table (x := ly_L_object) B (hts _ List.mem_cons_self)
  have hD := hD0.self (sz := s.heap.size)
  generalize hAe : va_A (wl_o o cO h :: ws) s.heap.size = A at hD hCF hE ⊢
  have hA : ∀ q : Nat, s.heap.size ≤ q → A q := fun q h => by rw [← hAe]; exact Or.inr h
  have hS : va_S A s.heap s.heap [] := va_S.rf
  have hP1 : va_P D al_cl (ws ++ [wl_o o cO h]) s.heap := va_P.comm (a := [wl_o o cO h]) hP
  have hD1 : va_D A (ws ++ [wl_o o cO h]) := va_D.comm (a := [wl_o o cO h]) hD
  obtain ⟨hKo, hKx⟩ := wl_K_cons hK
  have hl := lv_entry ([.ref x0, .int a1, .int a2, .ref o]) (n := 5) (Nat.le_of_ble_eq_true rfl)
  rw [lg_entry_eq]
  generalize (lg_sl ([.ref x0, .int a1, .int a2, .ref o]) ++ List.replicate (5 - (lg_sl ([.ref x0, .int a1, .int a2, .ref o])).length) Slot.unset).toArray = ls at hl ⊢
  have hl : lv_has ls 5 [(0, .ref x0), (1, .int a1), (2, .int a2), (3, .ref o)] := hl
  refine lv_aload_n hx hb ld_L_object_0 rfl (lv_at hl 3 rfl) ?_
  refine lv_iconst (v := 0) hx hb ld_L_object_1 (by decide) ?_
  refine lv_aload_n hx hb ld_L_object_2 rfl (lv_at hl 0 rfl) ?_
  refine lv_iload_n hx hb ld_L_object_3 rfl (lv_at hl 1 rfl) ?_
  refine lv_iload_n hx hb ld_L_object_4 rfl (lv_at hl 2 rfl) ?_
  refine wl_callX (As := [.int a1, .int a2]) (rest := [.int 0, .ref o]) (C := "TableTongue") (own := "TableTongueLaw") (Ts := lw_wH ly_L_object method_12_code 5 (some .int) [(0, 10, 13, 19)]) (wf := [wl_o o cO h]) ⟨hx, hb, hml, hown, hts⟩ hl.1 hN hCF hE hA hM hK0 hq rfl hKx hP1 hD1 hS ⟨callB_of 2 hts (lw_GoodInH (List.mem_cons_of_mem _ (lw_in 2944 (by decide +kernel) (by decide +kernel))) (by decide +kernel)) rfl rfl rfl (hts _ (List.mem_cons_of_mem _ (lw_in 394 (by decide +kernel) (by decide +kernel)))) (hts _ (List.mem_cons_of_mem _ (lw_in 2941 (by decide +kernel) (by decide +kernel)))) ⟨by decide, by decide, by decide +kernel⟩ ⟨Nat.le_of_ble_eq_true rfl, Nat.le_of_ble_eq_true rfl⟩, hts _ (List.mem_cons_of_mem _ (lw_in 2942 (by decide +kernel) (by decide +kernel))), hts _ (List.mem_cons_of_mem _ (lw_in 2943 (by decide +kernel) (by decide +kernel)))⟩ rfl ⟨by show 0 + mc ≤ mc; omega, by show 0 + ms ≤ ms; omega⟩ (Nat.le_of_ble_eq_true rfl) ld_L_object_5 (fun ce q9 t3 w3 H locs hK1 hK3 hP3 hD3 hS hce hcv hcl => ?_)
  refine vx_catch (own := "TableTongueLaw") (name := "java/lang/IndexOutOfBoundsException") hown [] ⟨0, 10, 13, 19⟩ [] (htab.trans rfl) (fun z hz => nomatch hz) (by decide) (by decide) (hts _ (List.mem_cons_of_mem _ (lw_in 2118 (by decide +kernel) (by decide +kernel)))) (va_Nw.use rfl (hE.1.2.2 _ (List.mem_of_getElem? (i := 2125) (by decide +kernel)) rfl)) hce hcv hcl ?_
  refine lv_astore (lv' := [(4, .ref q9), (0, .ref x0), (1, .int a1), (2, .int a2), (3, .ref o)]) hx hb ld_L_object_13 hl (by decide) rfl (fun ls hl => ?_)
  refine lv_iconst (v := 1) hx hb ld_L_object_15 (by decide) ?_
  exact W.widen (by omega) (by omega) (W.iret (v := 1) hx hb hr (fun t ht hW => ⟨⟨_, (cO, .long) :: t3, wl_o o cO h :: w3, rfl, ⟨h, rfl, fun z => absurd z (by decide), t3, w3, rfl, rfl, hK1⟩, by rw [ht]; exact hP3.comm, va_K.moved hW.alike (wl_K_app hKo hK3), by rw [hAe]; exact hD3.comm⟩, by rw [hAe]; exact hS.F ht⟩) hS.2.2 ld_L_object_16)
set_option maxHeartbeats 4000000 in
set_option maxRecDepth 100000 in
theorem ww_place_ok {l : Launch} {D : va_G} {ka : ev_KA} {x0 : Nat} {KX K1 : Nat → wl_Y → va_W → Prop} {mc ms : Nat} (hRc : wl_Rc 3 KX) {r : Int64} (a1 : Int32) (a2 : Int32) (a3 : Int32) (hM : wl_M l D ka ly_X11_place (lw_w ly_X11_place prog_1_method_17_code 5 (some .long)) 1900 80000 (KX x0) [.ref x0, .int a1, .int a2, .int a3] (fun v t w => v = some (.long r) ∧ K1 x0 t w) mc ms) : wl_Wc l D ka ly_L_place (lw_wH ly_L_place method_13_code 6 (some .int) [(0, 11, 14, 19)]) x0 KX K1 [.int a1, .int a2, .int a3] 0 r mc ms := by
  intro o cO h tys ws sz hW0
  obtain ⟨tys, ws, rfl, rfl, hK0⟩ := hW0
  obtain ⟨q0, fs, hq⟩ := hRc _ _ _ hK0
  show Met l ly_L_place (lw_wH ly_L_place method_13_code 6 (some .int) [(0, 11, 14, 19)]) _ (wl_Pc D ka _ _ sz [.ref x0, .int a1, .int a2, .int a3, .ref o]) _ mc ms _
  refine va_MetW (cc := method_13_code) (maxL := 6) (ret := (some .int)) (hh := [(0, 11, 14, 19)]) (by decide) rfl ?_
  intro p e s m args below meth c s₁ B hml hv
  obtain ⟨rfl, hsz, hP, hK, hD0, hN, hCF, hE⟩ := hv
  subst hsz
  have hx := B.exec
  have hb := B.bytes
  have hr := B.returns
  have hts := atoms_spec (ws := lw_wH ly_L_place method_13_code 6 (some .int) [(0, 11, 14, 19)]) B.pre
  have hown : s.vm.findClass "TableTongueLaw" = some m.cls := findClass_of_methodNamed B.named
  have hD := hD0.self (sz := s.heap.size)
  generalize hAe : va_A (wl_o o cO h :: ws) s.heap.size = A at hD hCF hE ⊢
  have hA : ∀ q : Nat, s.heap.size ≤ q → A q := fun q h => by rw [← hAe]; exact Or.inr h
  have hS : va_S A s.heap s.heap [] := va_S.rf
  have hP1 : va_P D al_cl (ws ++ [wl_o o cO h]) s.heap := va_P.comm (a := [wl_o o cO h]) hP
  have hD1 : va_D A (ws ++ [wl_o o cO h]) := va_D.comm (a := [wl_o o cO h]) hD
  obtain ⟨hKo, hKx⟩ := wl_K_cons hK
  have hl := lv_entry ([.ref x0, .int a1, .int a2, .int a3, .ref o]) (n := 6) (Nat.le_of_ble_eq_true rfl)
  rw [lg_entry_eq]
  generalize (lg_sl ([.ref x0, .int a1, .int a2, .int a3, .ref o]) ++ List.replicate (6 - (lg_sl ([.ref x0, .int a1, .int a2, .int a3, .ref o])).length) Slot.unset).toArray = ls at hl ⊢
  have hl : lv_has ls 6 [(0, .ref x0), (1, .int a1), (2, .int a2), (3, .int a3), (4, .ref o)] := hl
  refine lv_aload hx hb ld_L_place_0 (lv_at hl 4 rfl) ?_
  refine lv_iconst (v := 0) hx hb ld_L_place_2 (by decide) ?_
  refine lv_aload_n hx hb ld_L_place_3 rfl (lv_at hl 0 rfl) ?_
  refine lv_iload_n hx hb ld_L_place_4 rfl (lv_at hl 1 rfl) ?_
  refine lv_iload_n hx hb ld_L_place_5 rfl (lv_at hl 2 rfl) ?_
  refine lv_iload_n hx hb ld_L_place_6 rfl (lv_at hl 3 rfl) ?_
  refine wl_callG (As := [.int a1, .int a2, .int a3]) (rest := [.int 0, .ref o]) (C := "TableTongue") (own := "TableTongueLaw") (Ts := lw_wH ly_L_place method_13_code 6 (some .int) [(0, 11, 14, 19)]) (wf := [wl_o o cO h]) ⟨hx, hb, hml, hown, hts⟩ hl.1 hN hCF hE hA hM hK0 hq rfl hKx hP1 hD1 hS ⟨callB_of 3 hts (lw_GoodInH (List.mem_cons_of_mem _ (lw_in 2952 (by decide +kernel) (by decide +kernel))) (by decide +kernel)) rfl rfl rfl (hts _ (List.mem_cons_of_mem _ (lw_in 394 (by decide +kernel) (by decide +kernel)))) (hts _ (List.mem_cons_of_mem _ (lw_in 2949 (by decide +kernel) (by decide +kernel)))) ⟨by decide, by decide, by decide +kernel⟩ ⟨Nat.le_of_ble_eq_true rfl, Nat.le_of_ble_eq_true rfl⟩, hts _ (List.mem_cons_of_mem _ (lw_in 2950 (by decide +kernel) (by decide +kernel))), hts _ (List.mem_cons_of_mem _ (lw_in 2951 (by decide +kernel) (by decide +kernel)))⟩ rfl ⟨by show 0 + mc ≤ mc; omega, by show 0 + ms ≤ ms; omega⟩ (Nat.le_of_ble_eq_true rfl) ld_L_place_7 (fun v t3 w3 H locs hv hK3 hP3 hD3 hS => ?_)
  obtain ⟨rfl, hK1⟩ := hv
  have hP4 : va_P D al_cl ([wl_o o cO h] ++ w3) H := hP3.comm
  have hD4 : va_D A ([wl_o o cO h] ++ w3) := hD3.comm
  refine va_last hx hb hKo hP4 hD4 hS 0 0 rfl rfl (show vp_in (nI 0) 1 from vp_in_nI (by decide) (by decide)) ld_L_place_10 (fun H locs hP5 hD5 hS => ?_)
  refine lv_goto (tgt := 18) hx hb ld_L_place_11 (by decide) ?_
  refine lv_iconst (v := 0) hx hb ld_L_place_18 (by decide) ?_
  exact W.widen (by omega) (by omega) (W.iret (v := 0) hx hb hr (fun t ht hW => ⟨⟨_, (cO, .long) :: t3, wl_o o cO (vp_updL h (0 : Int32).toNatClampNeg r) :: w3, rfl, ⟨vp_updL h (0 : Int32).toNatClampNeg r, rfl, fun _ => pk_uLs, t3, w3, rfl, rfl, hK1⟩, by rw [ht]; exact hP5, va_K.moved hW.alike (wl_K_app hKo hK3), by rw [hAe]; exact hD5⟩, by rw [hAe]; exact hS.F ht⟩) hS.2.2 ld_L_place_19)
set_option maxHeartbeats 4000000 in
set_option maxRecDepth 100000 in
theorem ww_place_bad {l : Launch} {D : va_G} {ka : ev_KA} {x0 : Nat} {KX K1 : Nat → wl_Y → va_W → Prop} {mc ms : Nat} (hRc : wl_Rc 3 KX) (a1 : Int32) (a2 : Int32) (a3 : Int32) (hM : wl_TX l D ka ly_X11_place (lw_w ly_X11_place prog_1_method_17_code 5 (some .long)) 1900 80000 (KX x0) [.ref x0, .int a1, .int a2, .int a3] "java/lang/IndexOutOfBoundsException" (K1 x0) mc ms) : wl_Wc l D ka ly_L_place (lw_wH ly_L_place method_13_code 6 (some .int) [(0, 11, 14, 19)]) x0 KX K1 [.int a1, .int a2, .int a3] 1 0 mc ms := by
  intro o cO h tys ws sz hW0
  obtain ⟨tys, ws, rfl, rfl, hK0⟩ := hW0
  obtain ⟨q0, fs, hq⟩ := hRc _ _ _ hK0
  show Met l ly_L_place (lw_wH ly_L_place method_13_code 6 (some .int) [(0, 11, 14, 19)]) _ (wl_Pc D ka _ _ sz [.ref x0, .int a1, .int a2, .int a3, .ref o]) _ mc ms _
  refine va_MetW (cc := method_13_code) (maxL := 6) (ret := (some .int)) (hh := [(0, 11, 14, 19)]) (by decide) rfl ?_
  intro p e s m args below meth c s₁ B hml hv
  obtain ⟨rfl, hsz, hP, hK, hD0, hN, hCF, hE⟩ := hv
  subst hsz
  have hx := B.exec
  have hb := B.bytes
  have hr := B.returns
  have hts := atoms_spec (ws := lw_wH ly_L_place method_13_code 6 (some .int) [(0, 11, 14, 19)]) B.pre
  have hown : s.vm.findClass "TableTongueLaw" = some m.cls := findClass_of_methodNamed B.named
  have htab := vx_table (x := ly_L_place) B (hts _ List.mem_cons_self)
  have hD := hD0.self (sz := s.heap.size)
  generalize hAe : va_A (wl_o o cO h :: ws) s.heap.size = A at hD hCF hE ⊢
  have hA : ∀ q : Nat, s.heap.size ≤ q → A q := fun q h => by rw [← hAe]; exact Or.inr h
  have hS : va_S A s.heap s.heap [] := va_S.rf
  have hP1 : va_P D al_cl (ws ++ [wl_o o cO h]) s.heap := va_P.comm (a := [wl_o o cO h]) hP
  have hD1 : va_D A (ws ++ [wl_o o cO h]) := va_D.comm (a := [wl_o o cO h]) hD
  obtain ⟨hKo, hKx⟩ := wl_K_cons hK
  have hl := lv_entry ([.ref x0, .int a1, .int a2, .int a3, .ref o]) (n := 6) (Nat.le_of_ble_eq_true rfl)
  rw [lg_entry_eq]
  generalize (lg_sl ([.ref x0, .int a1, .int a2, .int a3, .ref o]) ++ List.replicate (6 - (lg_sl ([.ref x0, .int a1, .int a2, .int a3, .ref o])).length) Slot.unset).toArray = ls at hl ⊢
  have hl : lv_has ls 6 [(0, .ref x0), (1, .int a1), (2, .int a2), (3, .int a3), (4, .ref o)] := hl
  refine lv_aload hx hb ld_L_place_0 (lv_at hl 4 rfl) ?_
  refine lv_iconst (v := 0) hx hb ld_L_place_2 (by decide) ?_
  refine lv_aload_n hx hb ld_L_place_3 rfl (lv_at hl 0 rfl) ?_
  refine lv_iload_n hx hb ld_L_place_4 rfl (lv_at hl 1 rfl) ?_
  refine lv_iload_n hx hb ld_L_place_5 rfl (lv_at hl 2 rfl) ?_
  refine lv_iload_n hx hb ld_L_place_6 rfl (lv_at hl 3 rfl) ?_
  refine wl_callX (As := [.int a1, .int a2, .int a3]) (rest := [.int 0, .ref o]) (C := "TableTongue") (own := "TableTongueLaw") (Ts := lw_wH ly_L_place method_13_code 6 (some .int) [(0, 11, 14, 19)]) (wf := [wl_o o cO h]) ⟨hx, hb, hml, hown, hts⟩ hl.1 hN hCF hE hA hM hK0 hq rfl hKx hP1 hD1 hS ⟨callB_of 3 hts (lw_GoodInH (List.mem_cons_of_mem _ (lw_in 2952 (by decide +kernel) (by decide +kernel))) (by decide +kernel)) rfl rfl rfl (hts _ (List.mem_cons_of_mem _ (lw_in 394 (by decide +kernel) (by decide +kernel)))) (hts _ (List.mem_cons_of_mem _ (lw_in 2949 (by decide +kernel) (by decide +kernel)))) ⟨by decide, by decide, by decide +kernel⟩ ⟨Nat.le_of_ble_eq_true rfl, Nat.le_of_ble_eq_true rfl⟩, hts _ (List.mem_cons_of_mem _ (lw_in 2950 (by decide +kernel) (by decide +kernel))), hts _ (List.mem_cons_of_mem _ (lw_in 2951 (by decide +kernel) (by decide +kernel)))⟩ rfl ⟨by show 0 + mc ≤ mc; omega, by show 0 + ms ≤ ms; omega⟩ (Nat.le_of_ble_eq_true rfl) ld_L_place_7 (fun ce q9 t3 w3 H locs hK1 hK3 hP3 hD3 hS hce hcv hcl => ?_)
  refine vx_catch (own := "TableTongueLaw") (name := "java/lang/IndexOutOfBoundsException") hown [] ⟨0, 11, 14, 19⟩ [] (htab.trans rfl) (fun z hz => nomatch hz) (by decide) (by decide) (hts _ (List.mem_cons_of_mem _ (lw_in 2118 (by decide +kernel) (by decide +kernel)))) (va_Nw.use rfl (hE.1.2.2 _ (List.mem_of_getElem? (i := 2125) (by decide +kernel)) rfl)) hce hcv hcl ?_
  refine lv_astore (lv' := [(5, .ref q9), (0, .ref x0), (1, .int a1), (2, .int a2), (3, .int a3), (4, .ref o)]) hx hb ld_L_place_14 hl (by decide) rfl (fun ls hl => ?_)
  refine lv_iconst (v := 1) hx hb ld_L_place_16 (by decide) ?_
  exact W.widen (by omega) (by omega) (W.iret (v := 1) hx hb hr (fun t ht hW => ⟨⟨_, (cO, .long) :: t3, wl_o o cO h :: w3, rfl, ⟨h, rfl, fun z => absurd z (by decide), t3, w3, rfl, rfl, hK1⟩, by rw [ht]; exact hP3.comm, va_K.moved hW.alike (wl_K_app hKo hK3), by rw [hAe]; exact hD3.comm⟩, by rw [hAe]; exact hS.F ht⟩) hS.2.2 ld_L_place_17)
