/-! ===== 49: feed and wipe, with the text (by wip/whole2/law49.py) ===== -/
/-- byte k of a long -/
def wl_byte (a : Int64) (k : Nat) : Nat := (a.toBitVec.toNat >>> (8 * k)) % 256
theorem wl_byte_lt (a : Int64) (k : Nat) : wl_byte a k < 256 := Nat.mod_lt _ (by decide)
theorem wl_ssr (x : BitVec 64) (s : Nat) (hs : s ≤ 56) : (x.sshiftRight s).toNat % 256 = (x.toNat >>> s) % 256 := by
  apply Nat.eq_of_testBit_eq
  intro j
  rw [show (256 : Nat) = 2 ^ 8 from rfl, Nat.testBit_mod_two_pow, Nat.testBit_mod_two_pow, Nat.testBit_shiftRight]
  by_cases hj : j < 8
  · simp only [hj, decide_true, Bool.true_and]
    show (x.sshiftRight s).getLsbD j = x.getLsbD (s + j)
    rw [BitVec.getLsbD_sshiftRight]
    have h1 : ¬ 64 ≤ j := by omega
    have h2 : s + j < 64 := by omega
    simp [h1, h2]
  · simp [hj]
theorem wl_shr (a : Int64) (i : Nat) (hi : i < 8) : (a >>> (((8 : Int32) * nI i).toInt64 &&& 63)).toBitVec.toNat % 256 = wl_byte a i := by
  have h8 : i = 0 ∨ i = 1 ∨ i = 2 ∨ i = 3 ∨ i = 4 ∨ i = 5 ∨ i = 6 ∨ i = 7 := by omega
  rcases h8 with rfl | rfl | rfl | rfl | rfl | rfl | rfl | rfl
  · rw [show (((8 : Int32) * nI 0).toInt64 &&& 63) = (0 : Int64) from by decide, Int64.toBitVec_shiftRight, show ((0 : Int64).toBitVec.smod 64) = 0#64 from by decide]; exact wl_ssr _ 0 (by decide)
  · rw [show (((8 : Int32) * nI 1).toInt64 &&& 63) = (8 : Int64) from by decide, Int64.toBitVec_shiftRight, show ((8 : Int64).toBitVec.smod 64) = 8#64 from by decide]; exact wl_ssr _ 8 (by decide)
  · rw [show (((8 : Int32) * nI 2).toInt64 &&& 63) = (16 : Int64) from by decide, Int64.toBitVec_shiftRight, show ((16 : Int64).toBitVec.smod 64) = 16#64 from by decide]; exact wl_ssr _ 16 (by decide)
  · rw [show (((8 : Int32) * nI 3).toInt64 &&& 63) = (24 : Int64) from by decide, Int64.toBitVec_shiftRight, show ((24 : Int64).toBitVec.smod 64) = 24#64 from by decide]; exact wl_ssr _ 24 (by decide)
  · rw [show (((8 : Int32) * nI 4).toInt64 &&& 63) = (32 : Int64) from by decide, Int64.toBitVec_shiftRight, show ((32 : Int64).toBitVec.smod 64) = 32#64 from by decide]; exact wl_ssr _ 32 (by decide)
  · rw [show (((8 : Int32) * nI 5).toInt64 &&& 63) = (40 : Int64) from by decide, Int64.toBitVec_shiftRight, show ((40 : Int64).toBitVec.smod 64) = 40#64 from by decide]; exact wl_ssr _ 40 (by decide)
  · rw [show (((8 : Int32) * nI 6).toInt64 &&& 63) = (48 : Int64) from by decide, Int64.toBitVec_shiftRight, show ((48 : Int64).toBitVec.smod 64) = 48#64 from by decide]; exact wl_ssr _ 48 (by decide)
  · rw [show (((8 : Int32) * nI 7).toInt64 &&& 63) = (56 : Int64) from by decide, Int64.toBitVec_shiftRight, show ((56 : Int64).toBitVec.smod 64) = 56#64 from by decide]; exact wl_ssr _ 56 (by decide)
theorem wl_valX {a v3 : Int64} {i : Nat} (hi : i < 8) {v2 v4 v5 : Int32} (e2 : v2 = 8 * nI i) (e3 : v3 = a >>> (v2.toInt64 &&& 63)) (e4 : v4 = v3.toInt32) (e5 : v5 = v4.toInt8.toInt32) : vp_nar .byte v5 = nI (ev_b8 (wl_byte a i)) := by
  subst e2
  have h1 : v3.toBitVec.toNat % 256 = wl_byte a i := by rw [e3]; exact wl_shr a i hi
  have h3 : v4 = nI (v3.toBitVec.toNat % 4294967296) := by rw [e4, ← ev_l2i]; congr 1; exact (ev_lext (by rw [ev_lNn]; exact (Nat.mod_eq_of_lt v3.toBitVec.isLt).symm))
  have h4 : v5 = nI (ev_b8 (wl_byte a i)) := by
    rw [e5, h3, ev_i2b (Nat.mod_lt _ (by decide))]
    show nI (ev_b8 _) = _
    rw [ev_b8_mod, show v3.toBitVec.toNat % 4294967296 % 256 = wl_byte a i by rw [← h1]; omega]
  show v5.toInt8.toInt32 = _
  rw [h4, ev_i2b (ev_b8_lt _)]
  show nI (ev_b8 (ev_b8 _)) = _
  congr 1
  have h5 := wl_byte_lt a i
  unfold ev_b8
  cases hq : (wl_byte a i % 256).blt 128
  · simp only [cond_false]
    have : (wl_byte a i % 256 + 4294967040) % 256 = wl_byte a i % 256 := by omega
    rw [this, hq]; rfl
  · simp only [cond_true]
    rw [Nat.mod_mod, hq]; rfl
theorem wl_valM {a v3 : Int64} {i : Nat} (hi : i < 8) {v2 v4 v5 : Int32} (e2 : v2 = 8 * nI i) (e3 : v3 = (a.toUInt64 >>> (v2.toInt64.toUInt64 &&& Int64.toUInt64 63)).toInt64) (e4 : v4 = v3.toInt32) (e5 : v5 = v4 &&& 255) : v5 = nI (wl_byte a i) := by
  have h2 : v2 = nI (8 * i) := by
    rw [e2, show (8 : Int32) = nI 8 from rfl, ev_mulI, ev_nImod]
  have ha : a = lN a.toBitVec.toNat := ev_lext (by rw [ev_lNn]; exact (Nat.mod_eq_of_lt a.toBitVec.isLt).symm)
  rw [h2, ha, ev_ushrL a.toBitVec.isLt (by omega), show 8 * i % 64 = 8 * i by omega] at e3
  rw [e3, ev_l2i] at e4
  rw [e5, e4, show (255 : Int32) = nI 255 from rfl, ev_andI (Nat.mod_lt _ (by decide)) (by decide), show (255 : Nat) = 2 ^ 8 - 1 from rfl, Nat.and_two_pow_sub_one_eq_mod]
  congr 1
  unfold wl_byte
  omega
theorem wl_set_self {α : Type} {l : List α} {k : Nat} {v : α} (h : l[k]? = some v) : l.set k v = l := by
  apply List.ext_getElem?
  intro j
  by_cases hj : k = j
  · subst hj
    rw [List.getElem?_set_self (List.getElem?_eq_some_iff.mp h).1]; exact h.symm
  · rw [List.getElem?_set_ne hj]
set_option maxHeartbeats 4000000 in
set_option maxRecDepth 100000 in
theorem uw_X11_wipe (l : Launch) (D : va_G) (q0 sz : Nat) (fs : List Value) (hl0 : fs.length = 12) {zs : Int32} (hf8 : fs[8]? = some (.int zs)) : Met l ly_X11_wipe (lw_w ly_X11_wipe prog_1_method_3_code 2 (some .int)) ({ frames := 3, cells := 0, slots := 0, locals := 90 }) (lw_PY D q0 fs sz [.ref q0]) (va_Qi (S := Unit) (fun r _ => r = zs) (fun _ U => va_P D al_cl [(q0, .inr (3, (fs.set 8 (.int 0)).set 9 (.int 0)))] U.heap ∧ va_K D al_cl [] U ∧ va_D (va_A [(q0, .inr (3, fs))] sz) [(q0, .inr (3, (fs.set 8 (.int 0)).set 9 (.int 0)))]) (va_A [(q0, .inr (3, fs))] sz)) 0 0 (va_A [(q0, .inr (3, fs))] sz) := by
  refine Met.ofW (cc := prog_1_method_3_code) (maxL := 2) (ret := (some .int)) (by decide) rfl ?_
  intro p e s m args below meth c s₁ B hml hv
  obtain ⟨rfl, hsz, hP, hK, hD0⟩ := hv
  subst hsz
  have hx := B.exec
  have hb := B.bytes
  have hr := B.returns
  have hts := atoms_spec (ws := lw_w ly_X11_wipe prog_1_method_3_code 2 (some .int)) B.pre
  have hin : ∀ w ∈ u_ws "TableTongue" al_TX11 12, w ∈ lw_w ly_X11_wipe prog_1_method_3_code 2 (some .int) := fun w hw => List.mem_cons_of_mem _ (lw_u (ci := 3) rfl w hw)
  have hown : s.vm.findClass "TableTongue" = some m.cls := findClass_of_methodNamed B.named
  have hD := hD0.self (sz := s.heap.size)
  generalize hAe : va_A [(q0, .inr (3, fs))] s.heap.size = A at hD ⊢
  have hA : ∀ q : Nat, s.heap.size ≤ q → A q := fun q h => by rw [← hAe]; exact Or.inr h
  have hS : va_S A s.heap s.heap [] := va_S.rf
  have hl := lv_entry ([.ref q0]) (n := 2) (Nat.le_of_ble_eq_true rfl)
  rw [lg_entry_eq]
  generalize (lg_sl ([.ref q0]) ++ List.replicate (2 - (lg_sl ([.ref q0])).length) Slot.unset).toArray = ls at hl ⊢
  have hl : lv_has ls 2 [(0, .ref q0)] := hl
  refine lv_aload_n hx hb ld_X11_wipe_0 rfl (lv_at hl 0 rfl) ?_
  refine va_get (D := D) (ci := 3) (v := .int zs) (C := "TableTongue") (T := al_TX11) (N := 12) hx hb hts hin hown hK hP 0 rfl rfl 8 (by decide) (hts (.fieldLink "TableTongue" 80 "TableTongue" "size" "I") (List.mem_cons_of_mem _ (lw_in 1585 (by decide +kernel) (by decide +kernel)))) (fun _ h9 => h9) hf8 ld_X11_wipe_1 ?_
  refine lv_istore_n (lv' := [(1, .int zs), (0, .ref q0)]) hx hb ld_X11_wipe_4 rfl hl (by decide) rfl (fun ls hl => ?_)
  refine lv_aload_n hx hb ld_X11_wipe_5 rfl (lv_at hl 1 rfl) ?_
  refine lv_iconst (v := 0) hx hb ld_X11_wipe_6 (by decide) ?_
  refine va_put (D := D) (ci := 3) (v := .int 0) (ty := .int) (C := "TableTongue") (T := al_TX11) (N := 12) hx hb hts hin (al_tyf 3) (al_Cls.2 3 _ _ _ rfl).2.1 (al_Cls.2 3 _ _ _ rfl).2.2 hown hK hP hD hS 0 rfl rfl 8 (by decide) (hts (.fieldLink "TableTongue" 80 "TableTongue" "size" "I") (List.mem_cons_of_mem _ (lw_in 1585 (by decide +kernel) (by decide +kernel)))) (fun _ h9 => h9) rfl (by decide +kernel) rfl rfl (by omega) ld_X11_wipe_7 (fun H locs hP hD hS => ?_)
  obtain ⟨fs27, efs27⟩ : ∃ z, z = fs.set 8 (.int 0) := ⟨_, rfl⟩
  have hP : va_P D al_cl [(q0, .inr (3, fs27))] H := by rw [efs27]; exact hP
  have hD : va_D A [(q0, .inr (3, fs27))] := by rw [efs27]; exact hD
  have hfs27_8 : fs27[8]? = some (.int 0) := by rw [efs27]; exact List.getElem?_set_self (by omega)
  have hlfs27 : fs27.length = 12 := by rw [efs27, List.length_set]; exact hl0
  refine lv_aload_n hx hb ld_X11_wipe_10 rfl (lv_at hl 1 rfl) ?_
  have hPc := hP.sub (ws' := [(q0, .inr (3, fs27))]) [0] rfl
  have hDc := hD.sub (ws' := [(q0, .inr (3, fs27))]) [0] (by decide) rfl
  have hKc := hK.sub (tys' := []) [] rfl
  have hFc := va_free (wc := [(q0, .inr (3, fs27))]) hD hS hA [0] rfl
  refine va_callv (va_runV (As := []) (rest := []) (C := "TableTongue") (Ts := lw_w ly_X11_wipe prog_1_method_3_code 2 (some .int)) ⟨hx, hb, hml, hown, hts⟩ (x_X11_forget l D q0 H.size fs27 hlfs27) ⟨callB_of 0 hts (lw_GoodIn (List.mem_cons_of_mem _ (lw_in 1621 (by decide +kernel) (by decide +kernel))) (by decide +kernel)) rfl rfl rfl (hts _ (List.mem_cons_of_mem _ (lw_in 394 (by decide +kernel) (by decide +kernel)))) (hts _ (List.mem_cons_of_mem _ (lw_in 1618 (by decide +kernel) (by decide +kernel)))) ⟨by decide, by decide, by decide +kernel⟩ ⟨Nat.le_of_ble_eq_true rfl, Nat.le_of_ble_eq_true rfl⟩, hts _ (List.mem_cons_of_mem _ (lw_in 1620 (by decide +kernel) (by decide +kernel))), hts _ (List.mem_cons_of_mem _ (lw_in 7 (by decide +kernel) (by decide +kernel)))⟩ ⟨lw_PY.blind, va_recv hKc hPc (ci := 3) (q0 := 0) rfl rfl, fun U hU hW => ⟨rfl, by rw [hU], by rw [hU]; exact hPc, va_K.moved hW.alike hKc, hDc.weaken (fun _ _ _ _ => trivial)⟩⟩ rfl rfl hl.1 rfl (lv_room (Nat.le_of_ble_eq_true rfl)) ld_X11_wipe_11 ⟨Nat.le_of_ble_eq_true rfl, Nat.le_of_ble_eq_true rfl⟩) hS (fun q _ h => hFc q h) hFc (fun u t H1 locs ht hvm hw hB hz1 hk1 hS => ?_)
  obtain ⟨hP, -, hD1⟩ := hB
  have hD := hD1.weaken (fun k q _ h => hFc q.1 h)
  rw [ht] at hP
  refine lv_iload_n hx hb ld_X11_wipe_14 rfl (lv_at hl 0 rfl) ?_
  subst efs27
  exact W.iret (v := zs) hx hb hr (fun t ht hW => ⟨⟨zs, (), rfl, rfl, by rw [ht]; exact hP, va_K.moved hW.alike hKc, hD⟩, hS.F ht⟩) hS.2.2 ld_X11_wipe_15
set_option maxHeartbeats 4000000 in
set_option maxRecDepth 100000 in
theorem uf_X11_feed (l : Launch) (D : va_G) (q0 q1 sz : Nat) (cA : ClassId) (f : Nat → Int32) (fs : List Value) (hl0 : fs.length = 12) (hfT : fs[0]? = some (.ref q1)) (n : Nat) (hf8 : fs[8]? = some (.int (nI n))) (N : Nat) (hN1 : 1 ≤ N) (hN8 : N ≤ 8) (hn : n + N ≤ 6000) (a2 : Int64) : Met l ly_X11_feed (lw_w ly_X11_feed prog_1_method_2_code 5 (some .int)) ({ frames := 3, cells := 0, slots := 0, locals := 90 }) (lw_PT D 3 q0 q1 .byte cA f fs sz [.ref q0, .int (nI N), .long a2]) (va_Qi (S := Nat → Int32) (fun r u => r = nI (n + N) ∧ (∀ i, i < n → u i = f i) ∧ ∀ k, k < N → u (n + k) = nI (ev_b8 (wl_byte a2 k))) (fun u U => va_P D al_cl [(q0, .inr (3, (fs.set 8 (.int (nI (n + N)))).set 9 (.int 0))), (q1, .inl (cA, 6000, .inl u))] U.heap ∧ va_K D al_cl [(cA, .byte)] U ∧ va_D (va_A [(q0, .inr (3, fs)), (q1, .inl (cA, 6000, .inl f))] sz) [(q0, .inr (3, (fs.set 8 (.int (nI (n + N)))).set 9 (.int 0))), (q1, .inl (cA, 6000, .inl u))]) (va_A [(q0, .inr (3, fs)), (q1, .inl (cA, 6000, .inl f))] sz)) 0 0 (va_A [(q0, .inr (3, fs)), (q1, .inl (cA, 6000, .inl f))] sz) := by
  refine Met.ofW (cc := prog_1_method_2_code) (maxL := 5) (ret := (some .int)) (by decide) rfl ?_
  intro p e s m args below meth c s₁ B hml hv
  obtain ⟨rfl, hsz, hP, hK, hD0⟩ := hv
  subst hsz
  have hx := B.exec
  have hb := B.bytes
  have hr := B.returns
  have hts := atoms_spec (ws := lw_w ly_X11_feed prog_1_method_2_code 5 (some .int)) B.pre
  have hin : ∀ w ∈ u_ws "TableTongue" al_TX11 12, w ∈ lw_w ly_X11_feed prog_1_method_2_code 5 (some .int) := fun w hw => List.mem_cons_of_mem _ (lw_u (ci := 3) rfl w hw)
  have hown : s.vm.findClass "TableTongue" = some m.cls := findClass_of_methodNamed B.named
  have hD := hD0.self (sz := s.heap.size)
  generalize hAe : va_A [(q0, .inr (3, fs)), (q1, .inl (cA, 6000, .inl f))] s.heap.size = A at hD ⊢
  have hA : ∀ q : Nat, s.heap.size ≤ q → A q := fun q h => by rw [← hAe]; exact Or.inr h
  have hS : va_S A s.heap s.heap [] := va_S.rf
  have hl := lv_entry ([.ref q0, .int (nI N), .long a2]) (n := 5) (Nat.le_of_ble_eq_true rfl)
  rw [lg_entry_eq]
  generalize (lg_sl ([.ref q0, .int (nI N), .long a2]) ++ List.replicate (5 - (lg_sl ([.ref q0, .int (nI N), .long a2])).length) Slot.unset).toArray = ls at hl ⊢
  have hl : lv_has ls 5 [(0, .ref q0), (1, .int (nI N)), (2, .long a2)] := hl
  refine lv_iload_n hx hb ld_X11_feed_0 rfl (lv_at hl 1 rfl) ?_
  refine lv_iconst (v := 1) hx hb ld_X11_feed_1 (by decide) ?_
  refine lv_icmp_lt (tgt := 23) hx hb ld_X11_feed_2 (by decide) (fun z => absurd z (show ¬ nI N < 1 by rw [show (1 : Int32) = nI 1 from rfl, nI_ltI (by omega) (by omega)]; omega)) (fun _ => ?_)
  refine lv_iload_n hx hb ld_X11_feed_5 rfl (lv_at hl 1 rfl) ?_
  refine lv_bipush (v := 8) hx hb ld_X11_feed_6 (by decide) ?_
  refine lv_icmp_gt (tgt := 23) hx hb ld_X11_feed_8 (by decide) (fun z => absurd z (show ¬ (8 : Int32) < nI N by rw [show (8 : Int32) = nI 8 from rfl, nI_ltI (by omega) (by omega)]; omega)) (fun _ => ?_)
  refine lv_aload_n hx hb ld_X11_feed_11 rfl (lv_at hl 0 rfl) ?_
  refine va_get (D := D) (ci := 3) (v := .int (nI n)) (C := "TableTongue") (T := al_TX11) (N := 12) hx hb hts hin hown hK hP 0 rfl rfl 8 (by decide) (hts (.fieldLink "TableTongue" 80 "TableTongue" "size" "I") (List.mem_cons_of_mem _ (lw_in 1585 (by decide +kernel) (by decide +kernel)))) (fun _ h9 => h9) hf8 ld_X11_feed_12 ?_
  refine lv_iload_n hx hb ld_X11_feed_15 rfl (lv_at hl 1 rfl) ?_
  refine lv_iadd hx hb ld_X11_feed_16 ?_
  refine lv_topi (fun v_1 ev_1 => ?_)
  refine lv_sipush (v := 6000) hx hb ld_X11_feed_17 (by decide) ?_
  refine lv_icmp_le (tgt := 31) hx hb ld_X11_feed_20 (by decide) (fun _ => ?_) (fun z => absurd (show v_1 ≤ 6000 by rw [ev_1, nI_add, show (6000 : Int32) = nI 6000 from rfl, nI_leI (by omega) (by omega)]; omega) z)
  refine lv_iconst (v := 0) hx hb ld_X11_feed_31 (by decide) ?_
  refine lv_istore (lv' := [(4, .int 0), (0, .ref q0), (1, .int (nI N)), (2, .long a2)]) hx hb ld_X11_feed_32 hl (by decide) rfl (fun ls hl => ?_)
  have hl : lv_has ls 5 [(4, .int (nI 0)), (0, .ref q0), (1, .int (nI N)), (2, .long a2)] := hl
  have key : ∀ (r i : Nat), i + r = N → ∀ (g : Nat → Int32), (∀ j, j < n → g j = f j) → (∀ k, k < i → g (n + k) = nI (ev_b8 (wl_byte a2 k))) → ∀ (H : Heap) (locs : List Loc) (ls : Array Slot) , va_P D al_cl [(q0, .inr (3, fs)), (q1, .inl (cA, 6000, .inl g))] H → va_D A [(q0, .inr (3, fs)), (q1, .inl (cA, 6000, .inl g))] → va_S A s.heap H locs → lv_has ls 5 [(4, .int (nI i)), (0, .ref q0), (1, .int (nI N)), (2, .long a2)] → W p l e (headSpec (lw_w ly_X11_feed prog_1_method_2_code 5 (some .int)) ({ frames := 3, cells := 0, slots := 0, locals := 90 })).room s m [.ref q0, .int (nI N), .long a2].toArray below meth c H locs 0 0 (MQ below (va_Qi (S := Nat → Int32) (fun r u => r = nI (n + N) ∧ (∀ i, i < n → u i = f i) ∧ ∀ k, k < N → u (n + k) = nI (ev_b8 (wl_byte a2 k))) (fun u U => va_P D al_cl [(q0, .inr (3, (fs.set 8 (.int (nI (n + N)))).set 9 (.int 0))), (q1, .inl (cA, 6000, .inl u))] U.heap ∧ va_K D al_cl [(cA, .byte)] U ∧ va_D A [(q0, .inr (3, (fs.set 8 (.int (nI (n + N)))).set 9 (.int 0))), (q1, .inl (cA, 6000, .inl u))]) A) [.ref q0, .int (nI N), .long a2].toArray s 0 0 A) (F0 m 34 ls []) := by
    intro r
    induction r with
    | zero =>
      intro i hi g hg1 hg2 H locs ls hP hD hS hl
      obtain rfl : N = i := by omega
      refine lv_iload hx hb ld_X11_feed_34 (lv_at hl 0 rfl) ?_
      refine lv_iload_n hx hb ld_X11_feed_36 rfl (lv_at hl 2 rfl) ?_
      refine lv_icmp_ge (tgt := 67) hx hb ld_X11_feed_37 (by decide) (fun _ => ?_) (fun z => absurd (show nI N ≤ nI N from Int32.le_refl _) z)
      refine lv_aload_n hx hb ld_X11_feed_67 rfl (lv_at hl 1 rfl) ?_
      refine lv_dup hx hb ld_X11_feed_68 rfl ?_
      refine va_get (D := D) (ci := 3) (v := .int (nI n)) (C := "TableTongue") (T := al_TX11) (N := 12) hx hb hts hin hown hK hP 0 rfl rfl 8 (by decide) (hts (.fieldLink "TableTongue" 80 "TableTongue" "size" "I") (List.mem_cons_of_mem _ (lw_in 1585 (by decide +kernel) (by decide +kernel)))) (fun _ h9 => h9) hf8 ld_X11_feed_69 ?_
      refine lv_iload_n hx hb ld_X11_feed_72 rfl (lv_at hl 2 rfl) ?_
      refine lv_iadd hx hb ld_X11_feed_73 ?_
      refine lv_topi (fun v_11 ev_11 => ?_)
      obtain rfl : v_11 = nI (n + N) := ev_11.trans (nI_add n N)
      refine va_put (D := D) (ci := 3) (v := .int (nI (n + N))) (ty := .int) (C := "TableTongue") (T := al_TX11) (N := 12) hx hb hts hin (al_tyf 3) (al_Cls.2 3 _ _ _ rfl).2.1 (al_Cls.2 3 _ _ _ rfl).2.2 hown hK hP hD hS 0 rfl rfl 8 (by decide) (hts (.fieldLink "TableTongue" 80 "TableTongue" "size" "I") (List.mem_cons_of_mem _ (lw_in 1585 (by decide +kernel) (by decide +kernel)))) (fun _ h9 => h9) rfl (by decide +kernel) rfl rfl (by omega) ld_X11_feed_74 (fun H locs hP hD hS => ?_)
      obtain ⟨fs28, efs28⟩ : ∃ z, z = fs.set 8 (.int (nI (n + N))) := ⟨_, rfl⟩
      have hP : va_P D al_cl [(q0, .inr (3, fs28)), (q1, .inl (cA, 6000, .inl g))] H := by rw [efs28]; exact hP
      have hD : va_D A [(q0, .inr (3, fs28)), (q1, .inl (cA, 6000, .inl g))] := by rw [efs28]; exact hD
      have hfs28_0 : fs28[0]? = some (.ref q1) := by rw [efs28, List.getElem?_set_ne (by decide)]; exact hfT
      have hfs28_8 : fs28[8]? = some (.int (nI (n + N))) := by rw [efs28]; exact List.getElem?_set_self (by omega)
      have hlfs28 : fs28.length = 12 := by rw [efs28, List.length_set]; exact hl0
      refine lv_aload_n hx hb ld_X11_feed_77 rfl (lv_at hl 1 rfl) ?_
      have hPc := hP.sub (ws' := [(q0, .inr (3, fs28))]) [0] rfl
      have hDc := hD.sub (ws' := [(q0, .inr (3, fs28))]) [0] (by decide) rfl
      have hKc := hK.sub (tys' := []) [] rfl
      have hFc := va_free (wc := [(q0, .inr (3, fs28))]) hD hS hA [0] rfl
      refine va_callv (va_runV (As := []) (rest := []) (C := "TableTongue") (Ts := lw_w ly_X11_feed prog_1_method_2_code 5 (some .int)) ⟨hx, hb, hml, hown, hts⟩ (x_X11_forget l D q0 H.size fs28 hlfs28) ⟨callB_of 0 hts (lw_GoodIn (List.mem_cons_of_mem _ (lw_in 1621 (by decide +kernel) (by decide +kernel))) (by decide +kernel)) rfl rfl rfl (hts _ (List.mem_cons_of_mem _ (lw_in 394 (by decide +kernel) (by decide +kernel)))) (hts _ (List.mem_cons_of_mem _ (lw_in 1618 (by decide +kernel) (by decide +kernel)))) ⟨by decide, by decide, by decide +kernel⟩ ⟨Nat.le_of_ble_eq_true rfl, Nat.le_of_ble_eq_true rfl⟩, hts _ (List.mem_cons_of_mem _ (lw_in 1620 (by decide +kernel) (by decide +kernel))), hts _ (List.mem_cons_of_mem _ (lw_in 7 (by decide +kernel) (by decide +kernel)))⟩ ⟨lw_PY.blind, va_recv hKc hPc (ci := 3) (q0 := 0) rfl rfl, fun U hU hW => ⟨rfl, by rw [hU], by rw [hU]; exact hPc, va_K.moved hW.alike hKc, hDc.weaken (fun _ _ _ _ => trivial)⟩⟩ rfl rfl hl.1 rfl (lv_room (Nat.le_of_ble_eq_true rfl)) ld_X11_feed_78 ⟨Nat.le_of_ble_eq_true rfl, Nat.le_of_ble_eq_true rfl⟩) hS (fun q _ h => hFc q h) hFc (fun u t H1 locs ht hvm hw hB hz1 hk1 hS => ?_)
      obtain ⟨hPm, hDm⟩ := va_join (wr := [(q1, .inl (cA, 6000, .inl g))]) hP hD [0] [1] rfl rfl (by decide) (by decide) hk1 hFc (by rw [ht] at hB; exact hB.1) hB.2.2
      have hP := hPm.comm (a := [(q1, .inl (cA, 6000, .inl g))])
      have hD := hDm.comm (a := [(q1, .inl (cA, 6000, .inl g))])
      have hF_8 : (fs28.set 9 (Value.int 0))[8]? = some (.int (nI (n + N))) := by rw [List.getElem?_set_ne (by decide)]; exact hfs28_8
      refine lv_aload_n hx hb ld_X11_feed_81 rfl (lv_at hl 1 rfl) ?_
      refine va_get (D := D) (ci := 3) (v := .int (nI (n + N))) (C := "TableTongue") (T := al_TX11) (N := 12) hx hb hts hin hown hK hP 0 rfl rfl 8 (by decide) (hts (.fieldLink "TableTongue" 80 "TableTongue" "size" "I") (List.mem_cons_of_mem _ (lw_in 1585 (by decide +kernel) (by decide +kernel)))) (fun _ h9 => h9) hF_8 ld_X11_feed_82 ?_
      subst efs28
      exact W.iret (v := nI (n + N)) hx hb hr (fun t ht hW => ⟨⟨_, g, rfl, ⟨rfl, hg1, hg2⟩, by rw [ht]; exact hP, va_K.moved hW.alike hK, hD⟩, hS.F ht⟩) hS.2.2 ld_X11_feed_85
    | succ r ih =>
      intro i hi g hg1 hg2 H locs ls hP hD hS hl
      refine lv_iload hx hb ld_X11_feed_34 (lv_at hl 0 rfl) ?_
      refine lv_iload_n hx hb ld_X11_feed_36 rfl (lv_at hl 2 rfl) ?_
      refine lv_icmp_ge (tgt := 67) hx hb ld_X11_feed_37 (by decide) (fun z => absurd z (show ¬ nI N ≤ nI i by rw [nI_leI (by omega) (by omega)]; omega)) (fun _ => ?_)
      refine lv_aload_n hx hb ld_X11_feed_40 rfl (lv_at hl 1 rfl) ?_
      refine va_get (D := D) (ci := 3) (v := .ref q1) (C := "TableTongue") (T := al_TX11) (N := 12) hx hb hts hin hown hK hP 0 rfl rfl 0 (by decide) (hts (.fieldLink "TableTongue" 9 "TableTongue" "text" "[B") (List.mem_cons_of_mem _ (lw_in 1577 (by decide +kernel) (by decide +kernel)))) (fun _ h9 => h9) hfT ld_X11_feed_41 ?_
      refine lv_aload_n hx hb ld_X11_feed_44 rfl (lv_at hl 1 rfl) ?_
      refine va_get (D := D) (ci := 3) (v := .int (nI n)) (C := "TableTongue") (T := al_TX11) (N := 12) hx hb hts hin hown hK hP 0 rfl rfl 8 (by decide) (hts (.fieldLink "TableTongue" 80 "TableTongue" "size" "I") (List.mem_cons_of_mem _ (lw_in 1585 (by decide +kernel) (by decide +kernel)))) (fun _ h9 => h9) hf8 ld_X11_feed_45 ?_
      refine lv_iload hx hb ld_X11_feed_48 (lv_at hl 0 rfl) ?_
      refine lv_iadd hx hb ld_X11_feed_50 ?_
      refine lv_topi (fun v_21 ev_21 => ?_)
      obtain rfl : v_21 = nI (n + i) := ev_21.trans (nI_add n i)
      refine lv_lload_n hx hb ld_X11_feed_51 rfl (lv_at hl 3 rfl) ?_
      refine lv_bipush (v := 8) hx hb ld_X11_feed_52 (by decide) ?_
      refine lv_iload hx hb ld_X11_feed_54 (lv_at hl 0 rfl) ?_
      refine lv_imul hx hb ld_X11_feed_56 ?_
      refine lv_topi (fun v_22 ev_22 => ?_)
      refine lv_lshr hx hb ld_X11_feed_57 rfl ?_
      refine lv_topl (fun v_23 ev_23 => ?_)
      refine lv_l2i hx hb ld_X11_feed_58 rfl ?_
      refine lv_topi (fun v_24 ev_24 => ?_)
      refine lv_i2b hx hb ld_X11_feed_59 rfl ?_
      refine lv_topi (fun v_25 ev_25 => ?_)
      refine va_bast hx hb hK hP hD hS 1 0 rfl rfl (vp_in_nI (by omega) (by decide)) ld_X11_feed_60 (fun H locs hP hD hS => ?_)
      rw [nI_clamp (by omega)] at hP hD
      generalize hgu : upd g (n + i) (vp_nar .byte v_25) = g2 at hP hD
      have hP : va_P D al_cl [(q0, .inr (3, fs)), (q1, .inl (cA, 6000, .inl g2))] H := hP
      have hD : va_D A [(q0, .inr (3, fs)), (q1, .inl (cA, 6000, .inl g2))] := hD
      refine lv_iinc (v := nI (i + 1)) (lv' := [(4, .int (nI (i + 1))), (0, .ref q0), (1, .int (nI N)), (2, .long a2)]) hx hb ld_X11_feed_61 hl (k := 0) rfl (nI_1 i) (by decide) rfl (fun ls hl => ?_)
      refine lv_goto (tgt := 34) hx hb ld_X11_feed_64 (by decide) ?_
      exact ih (i + 1) (by omega) g2 (fun j hj => by rw [← hgu]; exact (if_neg (by omega)).trans (hg1 j hj)) (fun k hk => by
        rw [← hgu]
        by_cases ek : k = i
        · subst ek; exact (if_pos rfl).trans (wl_valX (by omega) ev_22 ev_23 ev_24 ev_25)
        · exact (if_neg (by omega)).trans (hg2 k (by omega))) H locs ls hP hD hS hl
  exact key N 0 (by omega) f (fun _ _ => rfl) (fun k hk => absurd hk (Nat.not_lt_zero k)) _ _ ls hP hD hS hl
set_option maxHeartbeats 4000000 in
set_option maxRecDepth 100000 in
theorem uf_X12_feed (l : Launch) (D : va_G) (q0 q1 sz : Nat) (cA : ClassId) (f : Nat → Int32) (fs : List Value) (hl0 : fs.length = 160) (hfT : fs[1]? = some (.ref q1)) (tv : Int32) (hf0 : fs[0]? = some (.int tv)) (n : Nat) (hf2 : fs[2]? = some (.int (nI n))) (N : Nat) (hN1 : 1 ≤ N) (hN8 : N ≤ 8) (hn : n + N ≤ 6000) (a2 : Int64) : Met l ly_X12_feed (lw_w ly_X12_feed prog_14_method_11_code 5 (some .int)) ({ frames := 3, cells := 0, slots := 0, locals := 90 }) (lw_PT D 0 q0 q1 .int cA f fs sz [.ref q0, .int (nI N), .long a2]) (va_Qi (S := Nat → Int32) (fun r u => r = nI (n + N) ∧ (∀ i, i < n → u i = f i) ∧ ∀ k, k < N → u (n + k) = nI (wl_byte a2 k)) (fun u U => va_P D al_cl [(q0, .inr (0, ((fs.set 0 (.int 0)).set 2 (.int (nI (n + N)))).set 3 (.int 0))), (q1, .inl (cA, 6000, .inl u))] U.heap ∧ va_K D al_cl [(cA, .int)] U ∧ va_D (va_A [(q0, .inr (0, fs)), (q1, .inl (cA, 6000, .inl f))] sz) [(q0, .inr (0, ((fs.set 0 (.int 0)).set 2 (.int (nI (n + N)))).set 3 (.int 0))), (q1, .inl (cA, 6000, .inl u))]) (va_A [(q0, .inr (0, fs)), (q1, .inl (cA, 6000, .inl f))] sz)) 0 0 (va_A [(q0, .inr (0, fs)), (q1, .inl (cA, 6000, .inl f))] sz) := by
  refine Met.ofW (cc := prog_14_method_11_code) (maxL := 5) (ret := (some .int)) (by decide) rfl ?_
  intro p e s m args below meth c s₁ B hml hv
  obtain ⟨rfl, hsz, hP, hK, hD0⟩ := hv
  subst hsz
  have hx := B.exec
  have hb := B.bytes
  have hr := B.returns
  have hts := atoms_spec (ws := lw_w ly_X12_feed prog_14_method_11_code 5 (some .int)) B.pre
  have hin : ∀ w ∈ u_ws "TableTongueModel" al_TX12 160, w ∈ lw_w ly_X12_feed prog_14_method_11_code 5 (some .int) := fun w hw => List.mem_cons_of_mem _ (lw_u (ci := 0) rfl w hw)
  have hown : s.vm.findClass "TableTongueModel" = some m.cls := findClass_of_methodNamed B.named
  have hD := hD0.self (sz := s.heap.size)
  generalize hAe : va_A [(q0, .inr (0, fs)), (q1, .inl (cA, 6000, .inl f))] s.heap.size = A at hD ⊢
  have hA : ∀ q : Nat, s.heap.size ≤ q → A q := fun q h => by rw [← hAe]; exact Or.inr h
  have hS : va_S A s.heap s.heap [] := va_S.rf
  have hl := lv_entry ([.ref q0, .int (nI N), .long a2]) (n := 5) (Nat.le_of_ble_eq_true rfl)
  rw [lg_entry_eq]
  generalize (lg_sl ([.ref q0, .int (nI N), .long a2]) ++ List.replicate (5 - (lg_sl ([.ref q0, .int (nI N), .long a2])).length) Slot.unset).toArray = ls at hl ⊢
  have hl : lv_has ls 5 [(0, .ref q0), (1, .int (nI N)), (2, .long a2)] := hl
  refine lv_aload_n hx hb ld_X12_feed_0 rfl (lv_at hl 0 rfl) ?_
  refine lv_iload_n hx hb ld_X12_feed_1 rfl (lv_at hl 1 rfl) ?_
  refine lv_iconst (v := 1) hx hb ld_X12_feed_2 (by decide) ?_
  refine lv_icmp_lt (tgt := 24) hx hb ld_X12_feed_3 (by decide) (fun z => absurd z (show ¬ nI N < 1 by rw [show (1 : Int32) = nI 1 from rfl, nI_ltI (by omega) (by omega)]; omega)) (fun _ => ?_)
  refine lv_iload_n hx hb ld_X12_feed_6 rfl (lv_at hl 1 rfl) ?_
  refine lv_bipush (v := 8) hx hb ld_X12_feed_7 (by decide) ?_
  refine lv_icmp_gt (tgt := 24) hx hb ld_X12_feed_9 (by decide) (fun z => absurd z (show ¬ (8 : Int32) < nI N by rw [show (8 : Int32) = nI 8 from rfl, nI_ltI (by omega) (by omega)]; omega)) (fun _ => ?_)
  refine lv_aload_n hx hb ld_X12_feed_12 rfl (lv_at hl 0 rfl) ?_
  refine va_get (D := D) (ci := 0) (v := .int (nI n)) (C := "TableTongueModel") (T := al_TX12) (N := 160) hx hb hts hin hown hK hP 0 rfl rfl 2 (by decide) (hts (.fieldLink "TableTongueModel" 506 "TableTongueModel" "size" "I") (List.mem_cons_of_mem _ (lw_in 3071 (by decide +kernel) (by decide +kernel)))) (fun _ h9 => h9) hf2 ld_X12_feed_13 ?_
  refine lv_iload_n hx hb ld_X12_feed_16 rfl (lv_at hl 1 rfl) ?_
  refine lv_iadd hx hb ld_X12_feed_17 ?_
  refine lv_topi (fun v_1 ev_1 => ?_)
  refine lv_sipush (v := 6000) hx hb ld_X12_feed_18 (by decide) ?_
  refine lv_icmp_le (tgt := 28) hx hb ld_X12_feed_21 (by decide) (fun _ => ?_) (fun z => absurd (show v_1 ≤ 6000 by rw [ev_1, nI_add, show (6000 : Int32) = nI 6000 from rfl, nI_leI (by omega) (by omega)]; omega) z)
  refine lv_iconst (v := 0) hx hb ld_X12_feed_28 (by decide) ?_
  refine va_put (D := D) (ci := 0) (v := .int 0) (ty := .int) (C := "TableTongueModel") (T := al_TX12) (N := 160) hx hb hts hin (al_tyf 0) (al_Cls.2 0 _ _ _ rfl).2.1 (al_Cls.2 0 _ _ _ rfl).2.2 hown hK hP hD hS 0 rfl rfl 0 (by decide) (hts (.fieldLink "TableTongueModel" 335 "TableTongueModel" "thrown" "I") (List.mem_cons_of_mem _ (lw_in 3069 (by decide +kernel) (by decide +kernel)))) (fun _ h9 => h9) rfl (by decide +kernel) rfl rfl (by omega) ld_X12_feed_29 (fun H locs hP hD hS => ?_)
  obtain ⟨fs29, efs29⟩ : ∃ z, z = fs.set 0 (.int 0) := ⟨_, rfl⟩
  have hP : va_P D al_cl [(q0, .inr (0, fs29)), (q1, .inl (cA, 6000, .inl f))] H := by rw [efs29]; exact hP
  have hD : va_D A [(q0, .inr (0, fs29)), (q1, .inl (cA, 6000, .inl f))] := by rw [efs29]; exact hD
  have hfs29_1 : fs29[1]? = some (.ref q1) := by rw [efs29, List.getElem?_set_ne (by decide)]; exact hfT
  have hfs29_2 : fs29[2]? = some (.int (nI n)) := by rw [efs29, List.getElem?_set_ne (by decide)]; exact hf2
  have hfs29_0 : fs29[0]? = some (.int 0) := by rw [efs29]; exact List.getElem?_set_self (by omega)
  have hlfs29 : fs29.length = 160 := by rw [efs29, List.length_set]; exact hl0
  refine lv_aload_n hx hb ld_X12_feed_32 rfl (lv_at hl 0 rfl) ?_
  refine va_get (D := D) (ci := 0) (v := .int 0) (C := "TableTongueModel") (T := al_TX12) (N := 160) hx hb hts hin hown hK hP 0 rfl rfl 0 (by decide) (hts (.fieldLink "TableTongueModel" 335 "TableTongueModel" "thrown" "I") (List.mem_cons_of_mem _ (lw_in 3069 (by decide +kernel) (by decide +kernel)))) (fun _ h9 => h9) hfs29_0 ld_X12_feed_33 ?_
  refine lv_if_le (tgt := 41) hx hb ld_X12_feed_36 (by decide) (fun _ => ?_) (fun z => absurd z (by decide))
  refine lv_iconst (v := 0) hx hb ld_X12_feed_41 (by decide) ?_
  refine lv_istore (lv' := [(4, .int 0), (0, .ref q0), (1, .int (nI N)), (2, .long a2)]) hx hb ld_X12_feed_42 hl (by decide) rfl (fun ls hl => ?_)
  have hl : lv_has ls 5 [(4, .int (nI 0)), (0, .ref q0), (1, .int (nI N)), (2, .long a2)] := hl
  have key : ∀ (r i : Nat), i + r = N → ∀ (h : Nat → Int32), (∀ j, j < n → h j = f j) → (∀ k, k < i → h (n + k) = nI (wl_byte a2 k)) → ∀ (H : Heap) (locs : List Loc) (ls : Array Slot) (g : List Value) (hlg : g.length = 160) (hgT : g[1]? = some (.ref q1)) (hg0 : g[0]? = some (.int 0)) (hg2 : g[2]? = some (.int (nI (n + i)))) (hgs : g = (fs.set 0 (.int 0)).set 2 (.int (nI (n + i)))) , va_P D al_cl [(q0, .inr (0, g)), (q1, .inl (cA, 6000, .inl h))] H → va_D A [(q0, .inr (0, g)), (q1, .inl (cA, 6000, .inl h))] → va_S A s.heap H locs → lv_has ls 5 [(4, .int (nI i)), (0, .ref q0), (1, .int (nI N)), (2, .long a2)] → W p l e (headSpec (lw_w ly_X12_feed prog_14_method_11_code 5 (some .int)) ({ frames := 3, cells := 0, slots := 0, locals := 90 })).room s m [.ref q0, .int (nI N), .long a2].toArray below meth c H locs 0 0 (MQ below (va_Qi (S := Nat → Int32) (fun r u => r = nI (n + N) ∧ (∀ i, i < n → u i = f i) ∧ ∀ k, k < N → u (n + k) = nI (wl_byte a2 k)) (fun u U => va_P D al_cl [(q0, .inr (0, ((fs.set 0 (.int 0)).set 2 (.int (nI (n + N)))).set 3 (.int 0))), (q1, .inl (cA, 6000, .inl u))] U.heap ∧ va_K D al_cl [(cA, .int)] U ∧ va_D A [(q0, .inr (0, ((fs.set 0 (.int 0)).set 2 (.int (nI (n + N)))).set 3 (.int 0))), (q1, .inl (cA, 6000, .inl u))]) A) [.ref q0, .int (nI N), .long a2].toArray s 0 0 A) (F0 m 44 ls []) := by
    intro r
    induction r with
    | zero =>
      intro i hi h hh1 hh2 H locs ls g hlg hgT hg0 hg2 hgs hP hD hS hl
      obtain rfl : N = i := by omega
      refine lv_iload hx hb ld_X12_feed_44 (lv_at hl 0 rfl) ?_
      refine lv_iload_n hx hb ld_X12_feed_46 rfl (lv_at hl 2 rfl) ?_
      refine lv_icmp_ge (tgt := 87) hx hb ld_X12_feed_47 (by decide) (fun _ => ?_) (fun z => absurd (show nI N ≤ nI N from Int32.le_refl _) z)
      refine lv_aload_n hx hb ld_X12_feed_87 rfl (lv_at hl 1 rfl) ?_
      refine lv_iconst (v := 0) hx hb ld_X12_feed_88 (by decide) ?_
      refine va_put (D := D) (ci := 0) (v := .int 0) (ty := .boolean) (C := "TableTongueModel") (T := al_TX12) (N := 160) hx hb hts hin (al_tyf 0) (al_Cls.2 0 _ _ _ rfl).2.1 (al_Cls.2 0 _ _ _ rfl).2.2 hown hK hP hD hS 0 rfl rfl 3 (by decide) (hts (.fieldLink "TableTongueModel" 509 "TableTongueModel" "compiled" "Z") (List.mem_cons_of_mem _ (lw_in 3072 (by decide +kernel) (by decide +kernel)))) (fun _ h9 => h9) rfl (by decide +kernel) rfl rfl (by omega) ld_X12_feed_89 (fun H locs hP hD hS => ?_)
      obtain ⟨fs30, efs30⟩ : ∃ z, z = g.set 3 (.int 0) := ⟨_, rfl⟩
      have hP : va_P D al_cl [(q0, .inr (0, fs30)), (q1, .inl (cA, 6000, .inl h))] H := by rw [efs30]; exact hP
      have hD : va_D A [(q0, .inr (0, fs30)), (q1, .inl (cA, 6000, .inl h))] := by rw [efs30]; exact hD
      have hfs30_0 : fs30[0]? = some (.int 0) := by rw [efs30, List.getElem?_set_ne (by decide)]; exact hg0
      have hfs30_1 : fs30[1]? = some (.ref q1) := by rw [efs30, List.getElem?_set_ne (by decide)]; exact hgT
      have hfs30_2 : fs30[2]? = some (.int (nI (n + N))) := by rw [efs30, List.getElem?_set_ne (by decide)]; exact hg2
      have hfs30_3 : fs30[3]? = some (.int 0) := by rw [efs30]; exact List.getElem?_set_self (by omega)
      have hlfs30 : fs30.length = 160 := by rw [efs30, List.length_set]; exact hlg
      refine lv_aload_n hx hb ld_X12_feed_92 rfl (lv_at hl 1 rfl) ?_
      refine va_get (D := D) (ci := 0) (v := .int (nI (n + N))) (C := "TableTongueModel") (T := al_TX12) (N := 160) hx hb hts hin hown hK hP 0 rfl rfl 2 (by decide) (hts (.fieldLink "TableTongueModel" 506 "TableTongueModel" "size" "I") (List.mem_cons_of_mem _ (lw_in 3071 (by decide +kernel) (by decide +kernel)))) (fun _ h9 => h9) hfs30_2 ld_X12_feed_93 ?_
      subst efs30
      subst hgs
      exact W.iret (v := nI (n + N)) hx hb hr (fun t ht hW => ⟨⟨_, h, rfl, ⟨rfl, hh1, hh2⟩, by rw [ht]; exact hP, va_K.moved hW.alike hK, hD⟩, hS.F ht⟩) hS.2.2 ld_X12_feed_96
    | succ r ih =>
      intro i hi h hh1 hh2 H locs ls g hlg hgT hg0 hg2 hgs hP hD hS hl
      refine lv_iload hx hb ld_X12_feed_44 (lv_at hl 0 rfl) ?_
      refine lv_iload_n hx hb ld_X12_feed_46 rfl (lv_at hl 2 rfl) ?_
      refine lv_icmp_ge (tgt := 87) hx hb ld_X12_feed_47 (by decide) (fun z => absurd z (show ¬ nI N ≤ nI i by rw [nI_leI (by omega) (by omega)]; omega)) (fun _ => ?_)
      refine lv_aload_n hx hb ld_X12_feed_50 rfl (lv_at hl 1 rfl) ?_
      refine va_get (D := D) (ci := 0) (v := .ref q1) (C := "TableTongueModel") (T := al_TX12) (N := 160) hx hb hts hin hown hK hP 0 rfl rfl 1 (by decide) (hts (.fieldLink "TableTongueModel" 7 "TableTongueModel" "text" "[I") (List.mem_cons_of_mem _ (lw_in 3070 (by decide +kernel) (by decide +kernel)))) (fun _ h9 => h9) hgT ld_X12_feed_51 ?_
      refine lv_aload_n hx hb ld_X12_feed_54 rfl (lv_at hl 1 rfl) ?_
      refine va_get (D := D) (ci := 0) (v := .int (nI (n + i))) (C := "TableTongueModel") (T := al_TX12) (N := 160) hx hb hts hin hown hK hP 0 rfl rfl 2 (by decide) (hts (.fieldLink "TableTongueModel" 506 "TableTongueModel" "size" "I") (List.mem_cons_of_mem _ (lw_in 3071 (by decide +kernel) (by decide +kernel)))) (fun _ h9 => h9) hg2 ld_X12_feed_55 ?_
      refine lv_lload_n hx hb ld_X12_feed_58 rfl (lv_at hl 3 rfl) ?_
      refine lv_bipush (v := 8) hx hb ld_X12_feed_59 (by decide) ?_
      refine lv_iload hx hb ld_X12_feed_61 (lv_at hl 0 rfl) ?_
      refine lv_imul hx hb ld_X12_feed_63 ?_
      refine lv_topi (fun v_21 ev_21 => ?_)
      refine lv_lushr hx hb ld_X12_feed_64 rfl ?_
      refine lv_topl (fun v_22 ev_22 => ?_)
      refine lv_l2i hx hb ld_X12_feed_65 rfl ?_
      refine lv_topi (fun v_23 ev_23 => ?_)
      refine lv_sipush (v := 255) hx hb ld_X12_feed_66 (by decide) ?_
      refine lv_iand hx hb ld_X12_feed_69 ?_
      refine lv_topi (fun v_24 ev_24 => ?_)
      refine va_iast hx hb hK hP hD hS 1 0 rfl rfl (vp_in_nI (by omega) (by decide)) ld_X12_feed_70 (fun H locs hP hD hS => ?_)
      rw [nI_clamp (by omega)] at hP hD
      generalize hgu : upd h (n + i) v_24 = h2 at hP hD
      have hP : va_P D al_cl [(q0, .inr (0, g)), (q1, .inl (cA, 6000, .inl h2))] H := hP
      have hD : va_D A [(q0, .inr (0, g)), (q1, .inl (cA, 6000, .inl h2))] := hD
      refine lv_aload_n hx hb ld_X12_feed_71 rfl (lv_at hl 1 rfl) ?_
      refine lv_dup hx hb ld_X12_feed_72 rfl ?_
      refine va_get (D := D) (ci := 0) (v := .int (nI (n + i))) (C := "TableTongueModel") (T := al_TX12) (N := 160) hx hb hts hin hown hK hP 0 rfl rfl 2 (by decide) (hts (.fieldLink "TableTongueModel" 506 "TableTongueModel" "size" "I") (List.mem_cons_of_mem _ (lw_in 3071 (by decide +kernel) (by decide +kernel)))) (fun _ h9 => h9) hg2 ld_X12_feed_73 ?_
      refine lv_iconst (v := 1) hx hb ld_X12_feed_76 (by decide) ?_
      refine lv_iadd hx hb ld_X12_feed_77 ?_
      refine lv_topi (fun v_25 ev_25 => ?_)
      refine va_put (D := D) (ci := 0) (v := .int v_25) (ty := .int) (C := "TableTongueModel") (T := al_TX12) (N := 160) hx hb hts hin (al_tyf 0) (al_Cls.2 0 _ _ _ rfl).2.1 (al_Cls.2 0 _ _ _ rfl).2.2 hown hK hP hD hS 0 rfl rfl 2 (by decide) (hts (.fieldLink "TableTongueModel" 506 "TableTongueModel" "size" "I") (List.mem_cons_of_mem _ (lw_in 3071 (by decide +kernel) (by decide +kernel)))) (fun _ h9 => h9) rfl (by decide +kernel) rfl rfl (by omega) ld_X12_feed_78 (fun H locs hP hD hS => ?_)
      obtain ⟨fs31, efs31⟩ : ∃ z, z = g.set 2 (.int v_25) := ⟨_, rfl⟩
      have hP : va_P D al_cl [(q0, .inr (0, fs31)), (q1, .inl (cA, 6000, .inl h2))] H := by rw [efs31]; exact hP
      have hD : va_D A [(q0, .inr (0, fs31)), (q1, .inl (cA, 6000, .inl h2))] := by rw [efs31]; exact hD
      have hfs31_0 : fs31[0]? = some (.int 0) := by rw [efs31, List.getElem?_set_ne (by decide)]; exact hg0
      have hfs31_1 : fs31[1]? = some (.ref q1) := by rw [efs31, List.getElem?_set_ne (by decide)]; exact hgT
      have hfs31_2 : fs31[2]? = some (.int v_25) := by rw [efs31]; exact List.getElem?_set_self (by omega)
      have hlfs31 : fs31.length = 160 := by rw [efs31, List.length_set]; exact hlg
      refine lv_iinc (v := nI (i + 1)) (lv' := [(4, .int (nI (i + 1))), (0, .ref q0), (1, .int (nI N)), (2, .long a2)]) hx hb ld_X12_feed_81 hl (k := 0) rfl (nI_1 i) (by decide) rfl (fun ls hl => ?_)
      refine lv_goto (tgt := 44) hx hb ld_X12_feed_84 (by decide) ?_
      exact ih (i + 1) (by omega) h2 (fun j hj => by rw [← hgu]; exact (if_neg (by omega)).trans (hh1 j hj)) (fun k hk => by
        rw [← hgu]
        by_cases ek : k = i
        · subst ek; exact (if_pos rfl).trans (wl_valM (by omega) ev_21 ev_22 ev_23 ev_24)
        · exact (if_neg (by omega)).trans (hh2 k (by omega))) H locs ls fs31 hlfs31 hfs31_1 hfs31_0 (by rw [hfs31_2, ev_25]; exact congrArg (fun z => some (Value.int z)) (nI_1 (n + i))) (by rw [efs31, hgs, List.set_set, ev_25]; exact congrArg (fun z => (fs.set 0 (.int 0)).set 2 (Value.int z)) (nI_1 (n + i))) hP hD hS hl
  exact key N 0 (by omega) f (fun _ _ => rfl) (fun k hk => absurd hk (Nat.not_lt_zero k)) _ _ ls fs29 hlfs29 hfs29_1 hfs29_0 hfs29_2 (by rw [efs29]; exact (wl_set_self (by rw [← efs29]; exact hfs29_2)).symm) hP hD hS hl
