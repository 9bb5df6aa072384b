/-! ===== 38: the law's cases where the class answers an argument (by wip/p1/law3.py) ===== -/
theorem lw_cmp0 (x : Int64) : lg_cmp x x = 0 := by simp [lg_cmp]
set_option maxHeartbeats 4000000 in
set_option maxRecDepth 100000 in
theorem lw_c3a {p : Program} {l : Launch} {e : Env} {s : State} {m : MethodId} {below : List Frame} {meth : Method} {c : Code} {b : Nat} {xs : Nat → Int32} {H : Heap} {locs : List Loc} {cells slots : Nat} {ls : Array Slot} {D : va_G} {x0 x1 m0 m1 o : Nat} {cX cM cO : ClassId} {f g : Nat → Int32} {h : Nat → Int64} {fx fm : List Value} (hst : l.stackTraces = false) (C0 : lw_At p s m meth c b 4 xs) (C : lw_C5 D s H locs x0 x1 m0 m1 o cX cM cO f g h fx fm) (hc : cells ≤ 1000) (hs : slots ≤ 2000000) (hl : lv_has ls 8 [(4, .int 0), (3, .ref o), (2, .ref m0), (1, .ref x0), (0, .ref b)]) (y1 : Int32) (e_y1 : xs (0 + 1 : Int32).toNatClampNeg = y1) (hok : y1 = 0 ∨ y1 = 1) : W p l e room_1 s m #[Value.ref b] below meth c H locs cells slots (lw_Z below #[Value.ref b] s) (F0 m 242 ls []) := by
  have C9 := C0
  obtain ⟨hx, hb, hr, hml, hown, hts, hX, hbl, hlocks, hgv⟩ := C0
  have hbA : ¬ (fun q : Nat => s.heap.size ≤ q) b := Nat.not_le.mpr hbl
  have hS := C.S
  refine lv_aload_n hx hb lwd_242 rfl (lv_at hl 3 rfl) ?_
  refine lv_aload_n hx hb lwd_243 rfl (lv_at hl 4 rfl) ?_
  refine lv_iload hx hb lwd_244 (lv_at hl 0 rfl) ?_
  refine lv_iconst (v := 1) hx hb lwd_246 (by decide) ?_
  refine lv_iadd hx hb lwd_247 ?_
  refine va_sld hx hb hX hbl hbA hS (i := (0 + 1)) (by unfold vp_in; decide) lwd_248 ?_
  refine lv_topi (fun v_1 ev_1 => ?_)
  obtain rfl : y1 = v_1 := (ev_1.trans e_y1).symm
  refine lv_aload_n hx hb lwd_249 rfl (lv_at hl 1 rfl) ?_
  have hPx := C.P.sub (ws' := [(x0, .inr (3, fx)), (o, .inl (cO, 1, .inr (.inl h)))]) [0, 4] rfl
  have hDx := C.A.sub (ws' := [(x0, .inr (3, fx)), (o, .inl (cO, 1, .inr (.inl h)))]) [0, 4] (by decide) rfl
  have hKx := C.K.sub (tys' := [(cO, .long)]) [2] rfl
  have hFx := va_free (wc := [(x0, .inr (3, fx)), (o, .inl (cO, 1, .inr (.inl h)))]) C.A C.S (fun _ h => h) [0, 4] rfl
  refine va_calli (vx_runSW (Ts := lw_tbl) (own := "TableTongueLaw") (As := [.ref x0, .int y1, .ref o]) (rest := []) ⟨hx, hb, hml, hown, hts⟩ (w_L_fault_ok l D x0 H.size fx C.x8 C.x9 C.x10 C.x11 o cO h y1 hok) (lw_csw 3 hts (List.mem_of_getElem? (i := 2117) rfl) (by decide +kernel) (List.mem_of_getElem? (i := 2115) (by decide +kernel)) (List.mem_of_getElem? (i := 2116) (by decide +kernel)) (List.mem_of_getElem? (i := 393) (by decide +kernel)) rfl rfl ⟨by decide, by decide, by decide +kernel⟩ ⟨Nat.le_of_ble_eq_true rfl, Nat.le_of_ble_eq_true rfl⟩) ⟨lw_PO.blind, fun U hU hW => ⟨rfl, by rw [hU], by rw [hU]; exact hPx, va_K.moved hW.alike hKx, hDx.weaken (fun _ _ _ _ => trivial), C.E.go hW hU C.S (fun q h => Nat.le_trans C.S.1 h)⟩⟩ rfl rfl hl.1 rfl (lv_room (Nat.le_of_ble_eq_true rfl)) lwd_250 ⟨by show cells + 0 ≤ 600002; omega, by show slots + 0 ≤ 7302232; omega⟩) C.S (fun q _ h => hFx q h) hFx (fun r_250 u t H1 locs1 ht hvm hw hB hz1 hk1 hS => ?_)
  obtain ⟨rfl, hv0⟩ := hw
  obtain ⟨hP1, hK1, hD1⟩ := hB
  rw [ht] at hP1
  obtain ⟨hP, hD⟩ := va_join (wr := [(m0, .inr (0, fm)), (m1, .inl (cM, 6000, .inl g))]) (w1 := [(o, .inl (cO, 1, .inr (.inl u)))]) C.P C.A [0, 4] [2, 3] rfl rfl (by decide) (by decide) hk1 hFx hP1 hD1
  refine lv_istore (lv' := [(5, .int 0), (4, .int 0), (3, .ref o), (2, .ref m0), (1, .ref x0), (0, .ref b)]) hx hb lwd_253 hl (by decide) rfl (fun ls hl => ?_)
  refine lv_aload_n hx hb lwd_255 rfl (lv_at hl 3 rfl) ?_
  refine lv_aload_n hx hb lwd_256 rfl (lv_at hl 5 rfl) ?_
  refine lv_iload hx hb lwd_257 (lv_at hl 1 rfl) ?_
  refine lv_iconst (v := 1) hx hb lwd_259 (by decide) ?_
  refine lv_iadd hx hb lwd_260 ?_
  refine va_sld hx hb hX hbl hbA hS (i := (0 + 1)) (by unfold vp_in; decide) lwd_261 ?_
  refine lv_topi (fun v_2 ev_2 => ?_)
  obtain rfl : y1 = v_2 := (ev_2.trans e_y1).symm
  have hPc := hP.sub (ws' := [(m0, .inr (0, fm))]) [0] rfl
  have hDc := hD.sub (ws' := [(m0, .inr (0, fm))]) [0] (by decide) rfl
  have hKc := C.K.sub (tys' := []) [] rfl
  have hFc := va_free (wc := [(m0, .inr (0, fm))]) hD hS (fun _ h => h) [0] rfl
  refine va_calli (va_runV (As := [.int y1]) (rest := []) (C := "TableTongueModel") (Ts := lw_tbl) ⟨hx, hb, hml, hown, hts⟩ (m_X12_fault_ok l D m0 H1.size fm C.lm 0 C.m0' C.m2 C.m3 C.m4 y1 hok) ⟨callB_of 1 hts (lw_GoodT (List.mem_of_getElem? (i := 4013) rfl) (by decide +kernel)) rfl rfl rfl (hts _ (List.mem_of_getElem? (i := 423) (by decide +kernel))) (hts _ (List.mem_of_getElem? (i := 4010) (by decide +kernel))) ⟨by decide, by decide, by decide +kernel⟩ ⟨Nat.le_of_ble_eq_true rfl, Nat.le_of_ble_eq_true rfl⟩, hts _ (List.mem_of_getElem? (i := 4011) (by decide +kernel)), hts _ (List.mem_of_getElem? (i := 4012) (by decide +kernel))⟩ ⟨lw_PM.blind, va_recv hKc hPc (ci := 0) (q0 := 0) rfl rfl, fun U hU hW => ⟨rfl, by rw [hU], by rw [hU]; exact hPc, va_K.moved hW.alike hKc, hDc.weaken (fun _ _ _ _ => trivial)⟩⟩ rfl rfl hl.1 rfl (lv_room (Nat.le_of_ble_eq_true rfl)) lwd_262 ⟨by show cells + 0 + 0 ≤ 600002; omega, by show slots + 0 + 0 ≤ 7302232; omega⟩) hS (fun q _ h => hFc q h) hFc (fun r_262 v t H2 locs2 ht hvm hw hB hz1 hk1 hS => ?_)
  obtain ⟨rfl, hu, hu0⟩ := hw
  obtain ⟨hP1, hK1, hD1⟩ := hB
  rw [ht] at hP1
  obtain ⟨hP, hD⟩ := va_join (wr := [(o, .inl (cO, 1, .inr (.inl u)))]) (w1 := [(m0, .inr (0, v))]) hP hD [0] [2] rfl rfl (by decide) (by decide) hk1 hFc hP1 hD1
  refine lv_istore (lv' := [(6, .int (-1)), (5, .int 0), (4, .int 0), (3, .ref o), (2, .ref m0), (1, .ref x0), (0, .ref b)]) hx hb lwd_265 hl (by decide) rfl (fun ls hl => ?_)
  refine lv_aload_n hx hb lwd_267 rfl (lv_at hl 4 rfl) ?_
  have hPc := hP.sub (ws' := [(m0, .inr (0, v))]) [1] rfl
  have hDc := hD.sub (ws' := [(m0, .inr (0, v))]) [1] (by decide) rfl
  have hKc := C.K.sub (tys' := []) [] rfl
  refine va_calli (va_runV (As := []) (rest := []) (C := "TableTongueModel") (Ts := lw_tbl) ⟨hx, hb, hml, hown, hts⟩ (m_X12_thrown l D m0 H2.size v 0 hu0) ⟨callB_of 0 hts (lw_GoodT (List.mem_of_getElem? (i := 3553) rfl) (by decide +kernel)) rfl rfl rfl (hts _ (List.mem_of_getElem? (i := 423) (by decide +kernel))) (hts _ (List.mem_of_getElem? (i := 3550) (by decide +kernel))) ⟨by decide, by decide, by decide +kernel⟩ ⟨Nat.le_of_ble_eq_true rfl, Nat.le_of_ble_eq_true rfl⟩, hts _ (List.mem_of_getElem? (i := 3551) (by decide +kernel)), hts _ (List.mem_of_getElem? (i := 3552) (by decide +kernel))⟩ ⟨lw_PM.blind, va_recv hKc hPc (ci := 0) (q0 := 0) rfl rfl, fun U hU hW => ⟨rfl, by rw [hU], by rw [hU]; exact hPc, va_K.moved hW.alike hKc, hDc.weaken (fun _ _ _ _ => trivial)⟩⟩ rfl rfl hl.1 rfl (lv_room (Nat.le_of_ble_eq_true rfl)) lwd_268 ⟨by show cells + 0 + 0 + 0 ≤ 600002; omega, by show slots + 0 + 0 + 0 ≤ 7302232; omega⟩) hS (fun q h1 h => absurd h (Nat.not_le.mpr h1)) (fun q h => Nat.le_trans hS.1 h) (fun r_268 u2 t H3 locs3 ht hvm hw _ hz1 hk3 hS => ?_)
  obtain rfl : r_268 = 0 := hw
  have hP := hP.kept (H1 := H3) (fun k q hq => hk3 q.1 (hP k q hq).lt (Nat.not_le.mpr (hP k q hq).lt))
  refine lv_iload hx hb lwd_271 (lv_at hl 1 rfl) ?_
  refine lv_icmp_eq (tgt := 278) hx hb lwd_273 (by decide) (fun _ => ?_) (fun z => absurd z (by decide))
  refine lv_iload hx hb lwd_278 (lv_at hl 1 rfl) ?_
  refine lv_if_ne (tgt := 295) hx hb lwd_280 (by decide) (fun z => absurd z (by decide)) (fun _ => ?_)
  refine lv_aload_n hx hb lwd_283 rfl (lv_at hl 3 rfl) ?_
  refine lv_iconst (v := 0) hx hb lwd_284 (by decide) ?_
  have hKo := C.K.sub (tys' := [(cO, .long)]) [2] rfl
  refine va_lald hx hb hKo hP 0 0 rfl rfl (show vp_in (nI 0) 1 from vp_in_nI (by decide) (by decide)) lwd_285 ?_
  refine lv_topl (fun vo evo => ?_)
  have evo : vo = u 0 := evo
  refine lv_iload hx hb lwd_286 (lv_at hl 0 rfl) ?_
  refine lv_i2l (v := ((-1) : Int32).toInt64) hx hb lwd_288 rfl ?_
  refine W.lcmp hx hb lwd_289 ?_
  refine lv_topi (fun v_3 ev_3 => ?_)
  obtain rfl : v_3 = 0 := ev_3.trans (by rw [evo, hv0]; exact lw_cmp0 _)
  refine lv_if_eq (tgt := 295) hx hb lwd_290 (by decide) (fun _ => ?_) (fun z => absurd z (by decide))
  refine lv_goto (tgt := 880) hx hb lwd_295 (by decide) ?_
  exact lw_end C9 hS (by omega) (by omega) (lv_sub hl [2, 6] rfl)
set_option maxHeartbeats 4000000 in
set_option maxRecDepth 100000 in
theorem lw_c13a {p : Program} {l : Launch} {e : Env} {s : State} {m : MethodId} {below : List Frame} {meth : Method} {c : Code} {b : Nat} {xs : Nat → Int32} {H : Heap} {locs : List Loc} {cells slots : Nat} {ls : Array Slot} {D : va_G} {x0 x1 m0 m1 o : Nat} {cX cM cO : ClassId} {f g : Nat → Int32} {h : Nat → Int64} {fx fm : List Value} (hst : l.stackTraces = false) (C0 : lw_At p s m meth c b 4 xs) (C : lw_C5 D s H locs x0 x1 m0 m1 o cX cM cO f g h fx fm) (hc : cells ≤ 1000) (hs : slots ≤ 2000000) (hl : lv_has ls 8 [(4, .int 0), (3, .ref o), (2, .ref m0), (1, .ref x0), (0, .ref b)]) (y1 : Int32) (e_y1 : xs (0 + 1 : Int32).toNatClampNeg = y1) (hok0 : ¬ y1 < 0) (hok5 : y1 ≤ 5) : W p l e room_1 s m #[Value.ref b] below meth c H locs cells slots (lw_Z below #[Value.ref b] s) (F0 m 677 ls []) := by
  have C9 := C0
  obtain ⟨hx, hb, hr, hml, hown, hts, hX, hbl, hlocks, hgv⟩ := C0
  have hbA : ¬ (fun q : Nat => s.heap.size ≤ q) b := Nat.not_le.mpr hbl
  have hS := C.S
  refine lv_aload_n hx hb lwd_677 rfl (lv_at hl 3 rfl) ?_
  refine lv_aload_n hx hb lwd_678 rfl (lv_at hl 4 rfl) ?_
  refine lv_iload hx hb lwd_679 (lv_at hl 0 rfl) ?_
  refine lv_iconst (v := 1) hx hb lwd_681 (by decide) ?_
  refine lv_iadd hx hb lwd_682 ?_
  refine va_sld hx hb hX hbl hbA hS (i := (0 + 1)) (by unfold vp_in; decide) lwd_683 ?_
  refine lv_topi (fun v_1 ev_1 => ?_)
  obtain rfl : y1 = v_1 := (ev_1.trans e_y1).symm
  refine lv_aload_n hx hb lwd_684 rfl (lv_at hl 1 rfl) ?_
  have hPx := C.P.sub (ws' := [(x0, .inr (3, fx)), (o, .inl (cO, 1, .inr (.inl h)))]) [0, 4] rfl
  have hDx := C.A.sub (ws' := [(x0, .inr (3, fx)), (o, .inl (cO, 1, .inr (.inl h)))]) [0, 4] (by decide) rfl
  have hKx := C.K.sub (tys' := [(cO, .long)]) [2] rfl
  have hFx := va_free (wc := [(x0, .inr (3, fx)), (o, .inl (cO, 1, .inr (.inl h)))]) C.A C.S (fun _ h => h) [0, 4] rfl
  refine va_calli (vx_runSW (Ts := lw_tbl) (own := "TableTongueLaw") (As := [.ref x0, .int y1, .ref o]) (rest := []) ⟨hx, hb, hml, hown, hts⟩ (w_L_count_ok l D x0 H.size fx C.x8 C.x9 C.x10 C.x11 o cO h y1 hok0 hok5) (lw_csw 3 hts (List.mem_of_getElem? (i := 2933) rfl) (by decide +kernel) (List.mem_of_getElem? (i := 2931) (by decide +kernel)) (List.mem_of_getElem? (i := 2932) (by decide +kernel)) (List.mem_of_getElem? (i := 393) (by decide +kernel)) rfl rfl ⟨by decide, by decide, by decide +kernel⟩ ⟨Nat.le_of_ble_eq_true rfl, Nat.le_of_ble_eq_true rfl⟩) ⟨lw_PO.blind, fun U hU hW => ⟨rfl, by rw [hU], by rw [hU]; exact hPx, va_K.moved hW.alike hKx, hDx.weaken (fun _ _ _ _ => trivial), C.E.go hW hU C.S (fun q h => Nat.le_trans C.S.1 h)⟩⟩ rfl rfl hl.1 rfl (lv_room (Nat.le_of_ble_eq_true rfl)) lwd_685 ⟨by show cells + 0 ≤ 600002; omega, by show slots + 0 ≤ 7302232; omega⟩) C.S (fun q _ h => hFx q h) hFx (fun r_685 u t H1 locs1 ht hvm hw hB hz1 hk1 hS => ?_)
  obtain ⟨rfl, hv0⟩ := hw
  obtain ⟨hP1, hK1, hD1⟩ := hB
  rw [ht] at hP1
  obtain ⟨hP, hD⟩ := va_join (wr := [(m0, .inr (0, fm)), (m1, .inl (cM, 6000, .inl g))]) (w1 := [(o, .inl (cO, 1, .inr (.inl u)))]) C.P C.A [0, 4] [2, 3] rfl rfl (by decide) (by decide) hk1 hFx hP1 hD1
  refine lv_istore (lv' := [(5, .int 0), (4, .int 0), (3, .ref o), (2, .ref m0), (1, .ref x0), (0, .ref b)]) hx hb lwd_688 hl (by decide) rfl (fun ls hl => ?_)
  refine lv_aload_n hx hb lwd_690 rfl (lv_at hl 3 rfl) ?_
  refine lv_aload_n hx hb lwd_691 rfl (lv_at hl 5 rfl) ?_
  refine lv_iload hx hb lwd_692 (lv_at hl 1 rfl) ?_
  refine lv_iconst (v := 1) hx hb lwd_694 (by decide) ?_
  refine lv_iadd hx hb lwd_695 ?_
  refine va_sld hx hb hX hbl hbA hS (i := (0 + 1)) (by unfold vp_in; decide) lwd_696 ?_
  refine lv_topi (fun v_2 ev_2 => ?_)
  obtain rfl : y1 = v_2 := (ev_2.trans e_y1).symm
  have hPc := hP.sub (ws' := [(m0, .inr (0, fm))]) [0] rfl
  have hDc := hD.sub (ws' := [(m0, .inr (0, fm))]) [0] (by decide) rfl
  have hKc := C.K.sub (tys' := []) [] rfl
  have hFc := va_free (wc := [(m0, .inr (0, fm))]) hD hS (fun _ h => h) [0] rfl
  refine va_calli (va_runV (As := [.int y1]) (rest := []) (C := "TableTongueModel") (Ts := lw_tbl) ⟨hx, hb, hml, hown, hts⟩ (m_X12_count_ok l D m0 H1.size fm C.lm 0 C.m0' C.m2 C.m3 C.m4 y1 hok0 hok5) ⟨callB_of 1 hts (lw_GoodT (List.mem_of_getElem? (i := 4573) rfl) (by decide +kernel)) rfl rfl rfl (hts _ (List.mem_of_getElem? (i := 423) (by decide +kernel))) (hts _ (List.mem_of_getElem? (i := 4570) (by decide +kernel))) ⟨by decide, by decide, by decide +kernel⟩ ⟨Nat.le_of_ble_eq_true rfl, Nat.le_of_ble_eq_true rfl⟩, hts _ (List.mem_of_getElem? (i := 4571) (by decide +kernel)), hts _ (List.mem_of_getElem? (i := 4572) (by decide +kernel))⟩ ⟨lw_PM.blind, va_recv hKc hPc (ci := 0) (q0 := 0) rfl rfl, fun U hU hW => ⟨rfl, by rw [hU], by rw [hU]; exact hPc, va_K.moved hW.alike hKc, hDc.weaken (fun _ _ _ _ => trivial)⟩⟩ rfl rfl hl.1 rfl (lv_room (Nat.le_of_ble_eq_true rfl)) lwd_697 ⟨by show cells + 0 + 0 ≤ 600002; omega, by show slots + 0 + 0 ≤ 7302232; omega⟩) hS (fun q _ h => hFc q h) hFc (fun r_697 v t H2 locs2 ht hvm hw hB hz1 hk1 hS => ?_)
  obtain ⟨rfl, hu, hu0⟩ := hw
  obtain ⟨hP1, hK1, hD1⟩ := hB
  rw [ht] at hP1
  obtain ⟨hP, hD⟩ := va_join (wr := [(o, .inl (cO, 1, .inr (.inl u)))]) (w1 := [(m0, .inr (0, v))]) hP hD [0] [2] rfl rfl (by decide) (by decide) hk1 hFc hP1 hD1
  refine lv_istore (lv' := [(6, .int 0), (5, .int 0), (4, .int 0), (3, .ref o), (2, .ref m0), (1, .ref x0), (0, .ref b)]) hx hb lwd_700 hl (by decide) rfl (fun ls hl => ?_)
  refine lv_aload_n hx hb lwd_702 rfl (lv_at hl 4 rfl) ?_
  have hPc := hP.sub (ws' := [(m0, .inr (0, v))]) [1] rfl
  have hDc := hD.sub (ws' := [(m0, .inr (0, v))]) [1] (by decide) rfl
  have hKc := C.K.sub (tys' := []) [] rfl
  refine va_calli (va_runV (As := []) (rest := []) (C := "TableTongueModel") (Ts := lw_tbl) ⟨hx, hb, hml, hown, hts⟩ (m_X12_thrown l D m0 H2.size v 0 hu0) ⟨callB_of 0 hts (lw_GoodT (List.mem_of_getElem? (i := 3553) rfl) (by decide +kernel)) rfl rfl rfl (hts _ (List.mem_of_getElem? (i := 423) (by decide +kernel))) (hts _ (List.mem_of_getElem? (i := 3550) (by decide +kernel))) ⟨by decide, by decide, by decide +kernel⟩ ⟨Nat.le_of_ble_eq_true rfl, Nat.le_of_ble_eq_true rfl⟩, hts _ (List.mem_of_getElem? (i := 3551) (by decide +kernel)), hts _ (List.mem_of_getElem? (i := 3552) (by decide +kernel))⟩ ⟨lw_PM.blind, va_recv hKc hPc (ci := 0) (q0 := 0) rfl rfl, fun U hU hW => ⟨rfl, by rw [hU], by rw [hU]; exact hPc, va_K.moved hW.alike hKc, hDc.weaken (fun _ _ _ _ => trivial)⟩⟩ rfl rfl hl.1 rfl (lv_room (Nat.le_of_ble_eq_true rfl)) lwd_703 ⟨by show cells + 0 + 0 + 0 ≤ 600002; omega, by show slots + 0 + 0 + 0 ≤ 7302232; omega⟩) hS (fun q h1 h => absurd h (Nat.not_le.mpr h1)) (fun q h => Nat.le_trans hS.1 h) (fun r_703 u2 t H3 locs3 ht hvm hw _ hz1 hk3 hS => ?_)
  obtain rfl : r_703 = 0 := hw
  have hP := hP.kept (H1 := H3) (fun k q hq => hk3 q.1 (hP k q hq).lt (Nat.not_le.mpr (hP k q hq).lt))
  refine lv_iload hx hb lwd_706 (lv_at hl 1 rfl) ?_
  refine lv_icmp_eq (tgt := 713) hx hb lwd_708 (by decide) (fun _ => ?_) (fun z => absurd z (by decide))
  refine lv_iload hx hb lwd_713 (lv_at hl 1 rfl) ?_
  refine lv_if_ne (tgt := 730) hx hb lwd_715 (by decide) (fun z => absurd z (by decide)) (fun _ => ?_)
  refine lv_aload_n hx hb lwd_718 rfl (lv_at hl 3 rfl) ?_
  refine lv_iconst (v := 0) hx hb lwd_719 (by decide) ?_
  have hKo := C.K.sub (tys' := [(cO, .long)]) [2] rfl
  refine va_lald hx hb hKo hP 0 0 rfl rfl (show vp_in (nI 0) 1 from vp_in_nI (by decide) (by decide)) lwd_720 ?_
  refine lv_topl (fun vo evo => ?_)
  have evo : vo = u 0 := evo
  refine lv_iload hx hb lwd_721 (lv_at hl 0 rfl) ?_
  refine lv_i2l (v := (0 : Int32).toInt64) hx hb lwd_723 rfl ?_
  refine W.lcmp hx hb lwd_724 ?_
  refine lv_topi (fun v_3 ev_3 => ?_)
  obtain rfl : v_3 = 0 := ev_3.trans (by rw [evo, hv0]; exact lw_cmp0 _)
  refine lv_if_eq (tgt := 730) hx hb lwd_725 (by decide) (fun _ => ?_) (fun z => absurd z (by decide))
  refine lv_goto (tgt := 880) hx hb lwd_730 (by decide) ?_
  exact lw_end C9 hS (by omega) (by omega) (lv_sub hl [2, 6] rfl)
set_option maxHeartbeats 4000000 in
set_option maxRecDepth 100000 in
theorem lw_c0a {p : Program} {l : Launch} {e : Env} {s : State} {m : MethodId} {below : List Frame} {meth : Method} {c : Code} {b : Nat} {xs : Nat → Int32} {H : Heap} {locs : List Loc} {cells slots : Nat} {ls : Array Slot} {D : va_G} {x0 x1 m0 m1 o : Nat} {cX cM cO : ClassId} {f g : Nat → Int32} {h : Nat → Int64} {fx fm : List Value} (hst : l.stackTraces = false) (C0 : lw_At p s m meth c b 4 xs) (C : lw_C5 D s H locs x0 x1 m0 m1 o cX cM cO f g h fx fm) (hc : cells ≤ 1000) (hs : slots ≤ 2000000) (hl : lv_has ls 8 [(4, .int 0), (3, .ref o), (2, .ref m0), (1, .ref x0), (0, .ref b)]) (N : Nat) (hN1 : 1 ≤ N) (hN8 : N ≤ 8) (e_y1 : xs (0 + 1 : Int32).toNatClampNeg = nI N) : W p l e room_1 s m #[Value.ref b] below meth c H locs cells slots (lw_Z below #[Value.ref b] s) (F0 m 116 ls []) := by
  have C9 := C0
  obtain ⟨hx, hb, hr, hml, hown, hts, hX, hbl, hlocks, hgv⟩ := C0
  have hbA : ¬ (fun q : Nat => s.heap.size ≤ q) b := Nat.not_le.mpr hbl
  have hS := C.S
  refine lv_aload_n hx hb lwd_116 rfl (lv_at hl 3 rfl) ?_
  refine lv_aload_n hx hb lwd_117 rfl (lv_at hl 4 rfl) ?_
  refine lv_iload hx hb lwd_118 (lv_at hl 0 rfl) ?_
  refine lv_iconst (v := 1) hx hb lwd_120 (by decide) ?_
  refine lv_iadd hx hb lwd_121 ?_
  refine va_sld hx hb hX hbl hbA hS (i := (0 + 1)) (by unfold vp_in; decide) lwd_122 ?_
  refine lv_topi (fun v_1 ev_1 => ?_)
  obtain rfl : v_1 = nI N := ev_1.trans e_y1
  refine lv_aload_n hx hb lwd_123 rfl (lv_at hl 4 rfl) ?_
  refine lv_iload hx hb lwd_124 (lv_at hl 0 rfl) ?_
  refine lv_iconst (v := 2) hx hb lwd_126 (by decide) ?_
  refine lv_iadd hx hb lwd_127 ?_
  refine va_sld hx hb hX hbl hbA hS (i := (0 + 2)) (by unfold vp_in; decide) lwd_128 ?_
  refine lv_topi (fun v_2 ev_2 => ?_)
  refine lv_i2l (v := (v_2 : Int32).toInt64) hx hb lwd_129 rfl ?_
  refine lv_bipush (v := 32) hx hb lwd_130 (by decide) ?_
  refine lv_lshl hx hb lwd_132 rfl ?_
  refine lv_topl (fun v_3 ev_3 => ?_)
  refine lv_aload_n hx hb lwd_133 rfl (lv_at hl 4 rfl) ?_
  refine lv_iload hx hb lwd_134 (lv_at hl 0 rfl) ?_
  refine lv_iconst (v := 3) hx hb lwd_136 (by decide) ?_
  refine lv_iadd hx hb lwd_137 ?_
  refine va_sld hx hb hX hbl hbA hS (i := (0 + 3)) (by unfold vp_in; decide) lwd_138 ?_
  refine lv_topi (fun v_4 ev_4 => ?_)
  refine lv_i2l (v := (v_4 : Int32).toInt64) hx hb lwd_139 rfl ?_
  refine lv_ldc2 hx hb hown (hts (.constantLong "TableTongueLaw" 57 (4294967295)) (List.mem_of_getElem? (i := 4586) (by decide +kernel))) lwd_140 ?_
  refine lv_land hx hb lwd_143 ?_
  refine lv_topl (fun v_5 ev_5 => ?_)
  refine lv_lor hx hb lwd_144 ?_
  refine lv_topl (fun v_6 ev_6 => ?_)
  refine lv_aload_n hx hb lwd_145 rfl (lv_at hl 1 rfl) ?_
  have hPx := C.P.sub (ws' := [(x0, .inr (3, fx)), (x1, .inl (cX, 6000, .inl f)), (o, .inl (cO, 1, .inr (.inl h)))]) [0, 1, 4] rfl
  have hDx := C.A.sub (ws' := [(x0, .inr (3, fx)), (x1, .inl (cX, 6000, .inl f)), (o, .inl (cO, 1, .inr (.inl h)))]) [0, 1, 4] (by decide) rfl
  have hKx := C.K.sub (tys' := [(cX, .byte), (cO, .long)]) [0, 2] rfl
  have hFx := va_free (wc := [(x0, .inr (3, fx)), (x1, .inl (cX, 6000, .inl f)), (o, .inl (cO, 1, .inr (.inl h)))]) C.A C.S (fun _ h => h) [0, 1, 4] rfl
  refine va_calli (vx_runSW (Ts := lw_tbl) (own := "TableTongueLaw") (As := [.ref x0, .int (nI N), .long v_6, .ref o]) (rest := []) ⟨hx, hb, hml, hown, hts⟩ (w_L_feed_ok l D x0 H.size fx C.lx x1 cX f C.x0' C.x8 o cO h N hN1 hN8 v_6) (lw_csw 4 hts (List.mem_of_getElem? (i := 2098) rfl) (by decide +kernel) (List.mem_of_getElem? (i := 2096) (by decide +kernel)) (List.mem_of_getElem? (i := 2097) (by decide +kernel)) (List.mem_of_getElem? (i := 393) (by decide +kernel)) rfl rfl ⟨by decide, by decide, by decide +kernel⟩ ⟨Nat.le_of_ble_eq_true rfl, Nat.le_of_ble_eq_true rfl⟩) ⟨lw_PF.blind, fun U hU hW => ⟨rfl, by rw [hU], by rw [hU]; exact hPx, va_K.moved hW.alike hKx, hDx.weaken (fun _ _ _ _ => trivial)⟩⟩ rfl rfl hl.1 rfl (lv_room (Nat.le_of_ble_eq_true rfl)) lwd_146 ⟨by show cells + 0 ≤ 600002; omega, by show slots + 0 ≤ 7302232; omega⟩) C.S (fun q _ h => hFx q h) hFx (fun r_146 u t H1 locs1 ht hvm hw hB hz1 hk1 hS => ?_)
  obtain ⟨rfl, hv0⟩ := hw
  obtain ⟨hP1, hK1, hD1⟩ := hB
  rw [ht] at hP1
  obtain ⟨hP, hD⟩ := va_join (wr := [(m0, .inr (0, fm)), (m1, .inl (cM, 6000, .inl g))]) (w1 := [(o, .inl (cO, 1, .inr (.inl u)))]) C.P C.A [0, 1, 4] [2, 3] rfl rfl (by decide) (by decide) hk1 hFx hP1 hD1
  refine lv_istore (lv' := [(5, .int 0), (4, .int 0), (3, .ref o), (2, .ref m0), (1, .ref x0), (0, .ref b)]) hx hb lwd_149 hl (by decide) rfl (fun ls hl => ?_)
  refine lv_aload_n hx hb lwd_151 rfl (lv_at hl 3 rfl) ?_
  refine lv_aload_n hx hb lwd_152 rfl (lv_at hl 5 rfl) ?_
  refine lv_iload hx hb lwd_153 (lv_at hl 1 rfl) ?_
  refine lv_iconst (v := 1) hx hb lwd_155 (by decide) ?_
  refine lv_iadd hx hb lwd_156 ?_
  refine va_sld hx hb hX hbl hbA hS (i := (0 + 1)) (by unfold vp_in; decide) lwd_157 ?_
  refine lv_topi (fun v_7 ev_7 => ?_)
  obtain rfl : v_7 = nI N := ev_7.trans e_y1
  refine lv_aload_n hx hb lwd_158 rfl (lv_at hl 5 rfl) ?_
  refine lv_iload hx hb lwd_159 (lv_at hl 1 rfl) ?_
  refine lv_iconst (v := 2) hx hb lwd_161 (by decide) ?_
  refine lv_iadd hx hb lwd_162 ?_
  refine va_sld hx hb hX hbl hbA hS (i := (0 + 2)) (by unfold vp_in; decide) lwd_163 ?_
  refine lv_topi (fun v_8 ev_8 => ?_)
  refine lv_i2l (v := (v_8 : Int32).toInt64) hx hb lwd_164 rfl ?_
  refine lv_bipush (v := 32) hx hb lwd_165 (by decide) ?_
  refine lv_lshl hx hb lwd_167 rfl ?_
  refine lv_topl (fun v_9 ev_9 => ?_)
  refine lv_aload_n hx hb lwd_168 rfl (lv_at hl 5 rfl) ?_
  refine lv_iload hx hb lwd_169 (lv_at hl 1 rfl) ?_
  refine lv_iconst (v := 3) hx hb lwd_171 (by decide) ?_
  refine lv_iadd hx hb lwd_172 ?_
  refine va_sld hx hb hX hbl hbA hS (i := (0 + 3)) (by unfold vp_in; decide) lwd_173 ?_
  refine lv_topi (fun v_10 ev_10 => ?_)
  refine lv_i2l (v := (v_10 : Int32).toInt64) hx hb lwd_174 rfl ?_
  refine lv_ldc2 hx hb hown (hts (.constantLong "TableTongueLaw" 57 (4294967295)) (List.mem_of_getElem? (i := 4586) (by decide +kernel))) lwd_175 ?_
  refine lv_land hx hb lwd_178 ?_
  refine lv_topl (fun v_11 ev_11 => ?_)
  refine lv_lor hx hb lwd_179 ?_
  refine lv_topl (fun v_12 ev_12 => ?_)
  have hPc := hP.sub (ws' := [(m0, .inr (0, fm)), (m1, .inl (cM, 6000, .inl g))]) [0, 1] rfl
  have hDc := hD.sub (ws' := [(m0, .inr (0, fm)), (m1, .inl (cM, 6000, .inl g))]) [0, 1] (by decide) rfl
  have hKc := C.K.sub (tys' := [(cM, .int)]) [1] rfl
  have hFc := va_free (wc := [(m0, .inr (0, fm)), (m1, .inl (cM, 6000, .inl g))]) hD hS (fun _ h => h) [0, 1] rfl
  refine va_calli (va_runV (As := [.int (nI N), .long v_12]) (rest := []) (C := "TableTongueModel") (Ts := lw_tbl) ⟨hx, hb, hml, hown, hts⟩ (m_X12_feed_ok l D m0 m1 H1.size cM g fm C.lm C.m1' 0 C.m0' C.m2 N hN1 hN8 v_12) ⟨callB_of 2 hts (lw_GoodT (List.mem_of_getElem? (i := 3557) rfl) (by decide +kernel)) rfl rfl rfl (hts _ (List.mem_of_getElem? (i := 423) (by decide +kernel))) (hts _ (List.mem_of_getElem? (i := 3554) (by decide +kernel))) ⟨by decide, by decide, by decide +kernel⟩ ⟨Nat.le_of_ble_eq_true rfl, Nat.le_of_ble_eq_true rfl⟩, hts _ (List.mem_of_getElem? (i := 3555) (by decide +kernel)), hts _ (List.mem_of_getElem? (i := 3556) (by decide +kernel))⟩ ⟨lw_PT.blind, va_recv hKc hPc (ci := 0) (q0 := 0) rfl rfl, fun U hU hW => ⟨rfl, by rw [hU], by rw [hU]; exact hPc, va_K.moved hW.alike hKc, hDc.weaken (fun _ _ _ _ => trivial)⟩⟩ rfl rfl hl.1 rfl (lv_room (Nat.le_of_ble_eq_true rfl)) lwd_180 ⟨by show cells + 0 + 0 ≤ 600002; omega, by show slots + 0 + 0 ≤ 7302232; omega⟩) hS (fun q _ h => hFc q h) hFc (fun r_180 v t H2 locs2 ht hvm hw hB hz1 hk1 hS => ?_)
  obtain ⟨rfl, hu, hu0⟩ := hw
  obtain ⟨hP1, hK1, hD1⟩ := hB
  rw [ht] at hP1
  obtain ⟨hP, hD⟩ := va_join (wr := [(o, .inl (cO, 1, .inr (.inl u)))]) (w1 := [(m0, .inr (0, v))]) hP hD [0, 1] [2] rfl rfl (by decide) (by decide) hk1 hFc hP1 hD1
  refine lv_istore (lv' := [(6, .int (nI N)), (5, .int 0), (4, .int 0), (3, .ref o), (2, .ref m0), (1, .ref x0), (0, .ref b)]) hx hb lwd_183 hl (by decide) rfl (fun ls hl => ?_)
  refine lv_aload_n hx hb lwd_185 rfl (lv_at hl 4 rfl) ?_
  have hPc := hP.sub (ws' := [(m0, .inr (0, v))]) [1] rfl
  have hDc := hD.sub (ws' := [(m0, .inr (0, v))]) [1] (by decide) rfl
  have hKc := C.K.sub (tys' := []) [] rfl
  refine va_calli (va_runV (As := []) (rest := []) (C := "TableTongueModel") (Ts := lw_tbl) ⟨hx, hb, hml, hown, hts⟩ (m_X12_thrown l D m0 H2.size v 0 hu0) ⟨callB_of 0 hts (lw_GoodT (List.mem_of_getElem? (i := 3553) rfl) (by decide +kernel)) rfl rfl rfl (hts _ (List.mem_of_getElem? (i := 423) (by decide +kernel))) (hts _ (List.mem_of_getElem? (i := 3550) (by decide +kernel))) ⟨by decide, by decide, by decide +kernel⟩ ⟨Nat.le_of_ble_eq_true rfl, Nat.le_of_ble_eq_true rfl⟩, hts _ (List.mem_of_getElem? (i := 3551) (by decide +kernel)), hts _ (List.mem_of_getElem? (i := 3552) (by decide +kernel))⟩ ⟨lw_PM.blind, va_recv hKc hPc (ci := 0) (q0 := 0) rfl rfl, fun U hU hW => ⟨rfl, by rw [hU], by rw [hU]; exact hPc, va_K.moved hW.alike hKc, hDc.weaken (fun _ _ _ _ => trivial)⟩⟩ rfl rfl hl.1 rfl (lv_room (Nat.le_of_ble_eq_true rfl)) lwd_186 ⟨by show cells + 0 + 0 + 0 ≤ 600002; omega, by show slots + 0 + 0 + 0 ≤ 7302232; omega⟩) hS (fun q h1 h => absurd h (Nat.not_le.mpr h1)) (fun q h => Nat.le_trans hS.1 h) (fun r_186 u2 t H3 locs3 ht hvm hw _ hz1 hk3 hS => ?_)
  obtain rfl : r_186 = 0 := hw
  have hP := hP.kept (H1 := H3) (fun k q hq => hk3 q.1 (hP k q hq).lt (Nat.not_le.mpr (hP k q hq).lt))
  refine lv_iload hx hb lwd_189 (lv_at hl 1 rfl) ?_
  refine lv_icmp_eq (tgt := 196) hx hb lwd_191 (by decide) (fun _ => ?_) (fun z => absurd z (by decide))
  refine lv_iload hx hb lwd_196 (lv_at hl 1 rfl) ?_
  refine lv_if_ne (tgt := 213) hx hb lwd_198 (by decide) (fun z => absurd z (by decide)) (fun _ => ?_)
  refine lv_aload_n hx hb lwd_201 rfl (lv_at hl 3 rfl) ?_
  refine lv_iconst (v := 0) hx hb lwd_202 (by decide) ?_
  have hKo := C.K.sub (tys' := [(cO, .long)]) [2] rfl
  refine va_lald hx hb hKo hP 0 0 rfl rfl (show vp_in (nI 0) 1 from vp_in_nI (by decide) (by decide)) lwd_203 ?_
  refine lv_topl (fun vo evo => ?_)
  have evo : vo = u 0 := evo
  refine lv_iload hx hb lwd_204 (lv_at hl 0 rfl) ?_
  refine lv_i2l (v := (nI N : Int32).toInt64) hx hb lwd_206 rfl ?_
  refine W.lcmp hx hb lwd_207 ?_
  refine lv_topi (fun v_13 ev_13 => ?_)
  obtain rfl : v_13 = 0 := ev_13.trans (by rw [evo, hv0]; exact lw_cmp0 _)
  refine lv_if_eq (tgt := 213) hx hb lwd_208 (by decide) (fun _ => ?_) (fun z => absurd z (by decide))
  refine lv_goto (tgt := 880) hx hb lwd_213 (by decide) ?_
  exact lw_end C9 hS (by omega) (by omega) (lv_sub hl [2, 6] rfl)
