/-! ===== 37: the law's cases without arguments (by wip/p1/law3.py) ===== -/
set_option maxHeartbeats 4000000 in
set_option maxRecDepth 100000 in
theorem lw_c1 {p : Program} {l : Launch} {e : Env} {s : State} {m : MethodId} {below : List Frame} {meth : Method} {c : Code} {b : Nat} {xs : Nat → Int32} {H : Heap} {locs : List Loc} {cells slots : Nat} {ls : Array Slot} {D : va_G} {x0 x1 m0 m1 o : Nat} {cX cM cO : ClassId} {f g : Nat → Int32} {h : Nat → Int64} {fx fm : List Value} (hst : l.stackTraces = false) (C0 : lw_At p s m meth c b 4 xs) (C : lw_C5 D s H locs x0 x1 m0 m1 o cX cM cO f g h fx fm) (hc : cells ≤ 1000) (hs : slots ≤ 2000000) (hl : lv_has ls 8 [(4, .int 0), (3, .ref o), (2, .ref m0), (1, .ref x0), (0, .ref b)])  : W p l e room_1 s m #[Value.ref b] below meth c H locs cells slots (lw_Z below #[Value.ref b] s) (F0 m 216 ls []) := by
  have C9 := C0
  obtain ⟨hx, hb, hr, hml, hown, hts, hX, hbl, hlocks, hgv⟩ := C0
  have hbA : ¬ (fun q : Nat => s.heap.size ≤ q) b := Nat.not_le.mpr hbl
  have hS := C.S
  refine lv_aload_n hx hb lwd_216 rfl (lv_at hl 3 rfl) ?_
  have hPx := C.P.sub (ws' := [(x0, .inr (3, fx))]) [0] rfl
  have hDx := C.A.sub (ws' := [(x0, .inr (3, fx))]) [0] (by decide) rfl
  have hKx := C.K.sub (tys' := []) [] rfl
  have hFx := va_free (wc := [(x0, .inr (3, fx))]) hDx hS (fun _ h => h) [0] rfl
  refine va_calli (va_runV (As := []) (rest := []) (C := "TableTongue") (Ts := lw_tbl) ⟨hx, hb, hml, hown, hts⟩ (x_X11_wipe l D x0 H.size fx C.lx C.x8) ⟨callB_of 0 hts (lw_GoodT (List.mem_of_getElem? (i := 1617) rfl) (by decide +kernel)) rfl rfl rfl (hts _ (List.mem_of_getElem? (i := 394) (by decide +kernel))) (hts _ (List.mem_of_getElem? (i := 1614) (by decide +kernel))) ⟨by decide, by decide, by decide +kernel⟩ ⟨Nat.le_of_ble_eq_true rfl, Nat.le_of_ble_eq_true rfl⟩, hts _ (List.mem_of_getElem? (i := 1615) (by decide +kernel)), hts _ (List.mem_of_getElem? (i := 1616) (by decide +kernel))⟩ ⟨lw_PY.blind, va_recv hKx hPx (ci := 3) (q0 := 0) rfl rfl, fun U hU hW => ⟨rfl, by rw [hU], by rw [hU]; exact hPx, va_K.moved hW.alike hKx, hDx.weaken (fun _ _ _ _ => trivial)⟩⟩ rfl rfl hl.1 rfl (lv_room (Nat.le_of_ble_eq_true rfl)) lwd_217 ⟨by show cells + 0 ≤ 600002; omega, by show slots + 0 ≤ 7302232; omega⟩) C.S (fun q _ h => hFx q h) hFx (fun r_217 u t H1 locs1 ht hvm hw _ hz1 hk1 hS => ?_)
  obtain rfl : r_217 = 0 := hw
  obtain ⟨hPm, hDm⟩ := va_join (wr := [(m0, .inr (0, fm))]) (w1 := []) C.P C.A [0] [2] rfl rfl (by decide) (by decide) hk1 hFx (fun k q h => (by cases h)) ⟨fun i j x y h => (by cases h), fun k q h => (by cases h)⟩
  refine lv_aload_n hx hb lwd_220 rfl (lv_at hl 2 rfl) ?_
  have hPc : va_P D al_cl [(m0, .inr (0, fm))] H1 := hPm
  have hDc : va_D (fun q : Nat => s.heap.size ≤ q) [(m0, .inr (0, fm))] := hDm
  have hKc := C.K.sub (tys' := []) [] rfl
  have hFc := va_free (wc := [(m0, .inr (0, fm))]) hDc hS (fun _ h => h) [0] rfl
  refine va_calli (va_runV (As := []) (rest := [.int 0]) (C := "TableTongueModel") (Ts := lw_tbl) ⟨hx, hb, hml, hown, hts⟩ (m_X12_wipe l D m0 H1.size fm C.lm 0 C.m0' C.m2 C.m3 C.m4  ) ⟨callB_of 0 hts (lw_GoodT (List.mem_of_getElem? (i := 3561) rfl) (by decide +kernel)) rfl rfl rfl (hts _ (List.mem_of_getElem? (i := 423) (by decide +kernel))) (hts _ (List.mem_of_getElem? (i := 3558) (by decide +kernel))) ⟨by decide, by decide, by decide +kernel⟩ ⟨Nat.le_of_ble_eq_true rfl, Nat.le_of_ble_eq_true rfl⟩, hts _ (List.mem_of_getElem? (i := 3559) (by decide +kernel)), hts _ (List.mem_of_getElem? (i := 3560) (by decide +kernel))⟩ ⟨lw_PM.blind, va_recv hKc hPc (ci := 0) (q0 := 0) rfl rfl, fun U hU hW => ⟨rfl, by rw [hU], by rw [hU]; exact hPc, va_K.moved hW.alike hKc, hDc.weaken (fun _ _ _ _ => trivial)⟩⟩ rfl rfl hl.1 rfl (lv_room (Nat.le_of_ble_eq_true rfl)) lwd_221 ⟨by show cells + 0 + 0 ≤ 600002; omega, by show slots + 0 + 0 ≤ 7302232; omega⟩) hS (fun q _ h => hFc q h) hFc (fun r_221 u t H2 locs2 ht hvm hw hB hz1 hk1 hS => ?_)
  obtain ⟨rfl, hu, hu0⟩ := hw
  obtain ⟨hP1, hK1, hD1⟩ := hB
  rw [ht] at hP1
  have hD1 := hD1.weaken (B := fun _ => True) (fun _ _ _ _ => trivial)
  refine lv_icmp_eq (tgt := 880) hx hb lwd_224 (by decide) (fun _ => ?_) (fun z => absurd z (by decide))
  exact lw_end C9 hS (by omega) (by omega) (lv_sub hl [0, 4] rfl)
set_option maxHeartbeats 4000000 in
set_option maxRecDepth 100000 in
theorem lw_c7 {p : Program} {l : Launch} {e : Env} {s : State} {m : MethodId} {below : List Frame} {meth : Method} {c : Code} {b : Nat} {xs : Nat → Int32} {H : Heap} {locs : List Loc} {cells slots : Nat} {ls : Array Slot} {D : va_G} {x0 x1 m0 m1 o : Nat} {cX cM cO : ClassId} {f g : Nat → Int32} {h : Nat → Int64} {fx fm : List Value} (hst : l.stackTraces = false) (C0 : lw_At p s m meth c b 4 xs) (C : lw_C5 D s H locs x0 x1 m0 m1 o cX cM cO f g h fx fm) (hc : cells ≤ 1000) (hs : slots ≤ 2000000) (hl : lv_has ls 8 [(4, .int 0), (3, .ref o), (2, .ref m0), (1, .ref x0), (0, .ref b)])  : W p l e room_1 s m #[Value.ref b] below meth c H locs cells slots (lw_Z below #[Value.ref b] s) (F0 m 446 ls []) := by
  have C9 := C0
  obtain ⟨hx, hb, hr, hml, hown, hts, hX, hbl, hlocks, hgv⟩ := C0
  have hbA : ¬ (fun q : Nat => s.heap.size ≤ q) b := Nat.not_le.mpr hbl
  have hS := C.S
  refine lv_aload_n hx hb lwd_446 rfl (lv_at hl 3 rfl) ?_
  have hPx := C.P.sub (ws' := [(x0, .inr (3, fx))]) [0] rfl
  have hDx := C.A.sub (ws' := [(x0, .inr (3, fx))]) [0] (by decide) rfl
  have hKx := C.K.sub (tys' := []) [] rfl
  have hFx := va_free (wc := [(x0, .inr (3, fx))]) hDx hS (fun _ h => h) [0] rfl
  refine va_calll (va_runV (As := []) (rest := []) (C := "TableTongue") (Ts := lw_tbl) ⟨hx, hb, hml, hown, hts⟩ (r_X11_steps l D x0 H.size fx C.x8 C.x9 C.x10 C.x11) ⟨callB_of 0 hts (lw_GoodT (List.mem_of_getElem? (i := 2079) rfl) (by decide +kernel)) rfl rfl rfl (hts _ (List.mem_of_getElem? (i := 394) (by decide +kernel))) (hts _ (List.mem_of_getElem? (i := 2076) (by decide +kernel))) ⟨by decide, by decide, by decide +kernel⟩ ⟨Nat.le_of_ble_eq_true rfl, Nat.le_of_ble_eq_true rfl⟩, hts _ (List.mem_of_getElem? (i := 2077) (by decide +kernel)), hts _ (List.mem_of_getElem? (i := 2078) (by decide +kernel))⟩ ⟨lw_PX.blind, va_recv hKx hPx (ci := 3) (q0 := 0) rfl rfl, fun U hU hW => ⟨rfl, by rw [hU], by rw [hU]; exact hPx, va_K.moved hW.alike hKx, C.E.go hW hU C.S (fun q h => Nat.le_trans C.S.1 h)⟩⟩ rfl rfl hl.1 rfl (lv_room (Nat.le_of_ble_eq_true rfl)) lwd_447 ⟨by show cells + 0 ≤ 600002; omega, by show slots + 0 ≤ 7302232; omega⟩) C.S (fun q h1 h => absurd h (Nat.not_le.mpr h1)) (fun q h => Nat.le_trans C.S.1 h) (fun r_447 u t H1 locs1 ht hvm hw _ hz1 hk1 hS => ?_)
  obtain rfl : r_447 = 0 := hw
  have C := C.kept hk1 hS
  refine lv_aload_n hx hb lwd_450 rfl (lv_at hl 2 rfl) ?_
  have hPc := C.P.sub (ws' := [(m0, .inr (0, fm))]) [2] rfl
  have hDc := C.A.sub (ws' := [(m0, .inr (0, fm))]) [2] (by decide) rfl
  have hKc := C.K.sub (tys' := []) [] rfl
  have hFc := va_free (wc := [(m0, .inr (0, fm))]) hDc hS (fun _ h => h) [0] rfl
  refine va_calll (va_runV (As := []) (rest := [.long 0]) (C := "TableTongueModel") (Ts := lw_tbl) ⟨hx, hb, hml, hown, hts⟩ (m_X12_steps l D m0 H1.size fm C.lm 0 C.m0' C.m2 C.m3 C.m4  ) ⟨callB_of 0 hts (lw_GoodT (List.mem_of_getElem? (i := 4538) rfl) (by decide +kernel)) rfl rfl rfl (hts _ (List.mem_of_getElem? (i := 423) (by decide +kernel))) (hts _ (List.mem_of_getElem? (i := 4535) (by decide +kernel))) ⟨by decide, by decide, by decide +kernel⟩ ⟨Nat.le_of_ble_eq_true rfl, Nat.le_of_ble_eq_true rfl⟩, hts _ (List.mem_of_getElem? (i := 4536) (by decide +kernel)), hts _ (List.mem_of_getElem? (i := 4537) (by decide +kernel))⟩ ⟨lw_PM.blind, va_recv hKc hPc (ci := 0) (q0 := 0) rfl rfl, fun U hU hW => ⟨rfl, by rw [hU], by rw [hU]; exact hPc, va_K.moved hW.alike hKc, hDc.weaken (fun _ _ _ _ => trivial)⟩⟩ rfl rfl hl.1 rfl (lv_room (Nat.le_of_ble_eq_true rfl)) lwd_451 ⟨by show cells + 0 + 0 ≤ 600002; omega, by show slots + 0 + 0 ≤ 7302232; omega⟩) hS (fun q _ h => hFc q h) hFc (fun r_451 u t H2 locs2 ht hvm hw hB hz1 hk1 hS => ?_)
  obtain ⟨rfl, hu, hu0⟩ := hw
  obtain ⟨hP1, hK1, hD1⟩ := hB
  rw [ht] at hP1
  have hD1 := hD1.weaken (B := fun _ => True) (fun _ _ _ _ => trivial)
  refine W.lcmp hx hb lwd_454 ?_
  refine lv_topi (fun v_1 ev_1 => ?_)
  obtain rfl : v_1 = 0 := ev_1.trans (by decide)
  refine lv_if_eq (tgt := 880) hx hb lwd_455 (by decide) (fun _ => ?_) (fun z => absurd z (by decide))
  exact lw_end C9 hS (by omega) (by omega) (lv_sub hl [0, 4] rfl)
set_option maxHeartbeats 4000000 in
set_option maxRecDepth 100000 in
theorem lw_c8 {p : Program} {l : Launch} {e : Env} {s : State} {m : MethodId} {below : List Frame} {meth : Method} {c : Code} {b : Nat} {xs : Nat → Int32} {H : Heap} {locs : List Loc} {cells slots : Nat} {ls : Array Slot} {D : va_G} {x0 x1 m0 m1 o : Nat} {cX cM cO : ClassId} {f g : Nat → Int32} {h : Nat → Int64} {fx fm : List Value} (hst : l.stackTraces = false) (C0 : lw_At p s m meth c b 4 xs) (C : lw_C5 D s H locs x0 x1 m0 m1 o cX cM cO f g h fx fm) (hc : cells ≤ 1000) (hs : slots ≤ 2000000) (hl : lv_has ls 8 [(4, .int 0), (3, .ref o), (2, .ref m0), (1, .ref x0), (0, .ref b)])  : W p l e room_1 s m #[Value.ref b] below meth c H locs cells slots (lw_Z below #[Value.ref b] s) (F0 m 460 ls []) := by
  have C9 := C0
  obtain ⟨hx, hb, hr, hml, hown, hts, hX, hbl, hlocks, hgv⟩ := C0
  have hbA : ¬ (fun q : Nat => s.heap.size ≤ q) b := Nat.not_le.mpr hbl
  have hS := C.S
  refine lv_aload_n hx hb lwd_460 rfl (lv_at hl 3 rfl) ?_
  have hPx := C.P.sub (ws' := [(x0, .inr (3, fx))]) [0] rfl
  have hDx := C.A.sub (ws' := [(x0, .inr (3, fx))]) [0] (by decide) rfl
  have hKx := C.K.sub (tys' := []) [] rfl
  have hFx := va_free (wc := [(x0, .inr (3, fx))]) hDx hS (fun _ h => h) [0] rfl
  refine va_calli (va_runV (As := []) (rest := []) (C := "TableTongue") (Ts := lw_tbl) ⟨hx, hb, hml, hown, hts⟩ (r_X11_results l D x0 H.size fx C.x8 C.x9 C.x10 C.x11) ⟨callB_of 0 hts (lw_GoodT (List.mem_of_getElem? (i := 2083) rfl) (by decide +kernel)) rfl rfl rfl (hts _ (List.mem_of_getElem? (i := 394) (by decide +kernel))) (hts _ (List.mem_of_getElem? (i := 2080) (by decide +kernel))) ⟨by decide, by decide, by decide +kernel⟩ ⟨Nat.le_of_ble_eq_true rfl, Nat.le_of_ble_eq_true rfl⟩, hts _ (List.mem_of_getElem? (i := 2081) (by decide +kernel)), hts _ (List.mem_of_getElem? (i := 2082) (by decide +kernel))⟩ ⟨lw_PX.blind, va_recv hKx hPx (ci := 3) (q0 := 0) rfl rfl, fun U hU hW => ⟨rfl, by rw [hU], by rw [hU]; exact hPx, va_K.moved hW.alike hKx, C.E.go hW hU C.S (fun q h => Nat.le_trans C.S.1 h)⟩⟩ rfl rfl hl.1 rfl (lv_room (Nat.le_of_ble_eq_true rfl)) lwd_461 ⟨by show cells + 0 ≤ 600002; omega, by show slots + 0 ≤ 7302232; omega⟩) C.S (fun q h1 h => absurd h (Nat.not_le.mpr h1)) (fun q h => Nat.le_trans C.S.1 h) (fun r_461 u t H1 locs1 ht hvm hw _ hz1 hk1 hS => ?_)
  obtain rfl : r_461 = 0 := hw
  have C := C.kept hk1 hS
  refine lv_aload_n hx hb lwd_464 rfl (lv_at hl 2 rfl) ?_
  have hPc := C.P.sub (ws' := [(m0, .inr (0, fm))]) [2] rfl
  have hDc := C.A.sub (ws' := [(m0, .inr (0, fm))]) [2] (by decide) rfl
  have hKc := C.K.sub (tys' := []) [] rfl
  have hFc := va_free (wc := [(m0, .inr (0, fm))]) hDc hS (fun _ h => h) [0] rfl
  refine va_calli (va_runV (As := []) (rest := [.int 0]) (C := "TableTongueModel") (Ts := lw_tbl) ⟨hx, hb, hml, hown, hts⟩ (m_X12_results l D m0 H1.size fm C.lm 0 C.m0' C.m2 C.m3 C.m4  ) ⟨callB_of 0 hts (lw_GoodT (List.mem_of_getElem? (i := 4542) rfl) (by decide +kernel)) rfl rfl rfl (hts _ (List.mem_of_getElem? (i := 423) (by decide +kernel))) (hts _ (List.mem_of_getElem? (i := 4539) (by decide +kernel))) ⟨by decide, by decide, by decide +kernel⟩ ⟨Nat.le_of_ble_eq_true rfl, Nat.le_of_ble_eq_true rfl⟩, hts _ (List.mem_of_getElem? (i := 4540) (by decide +kernel)), hts _ (List.mem_of_getElem? (i := 4541) (by decide +kernel))⟩ ⟨lw_PM.blind, va_recv hKc hPc (ci := 0) (q0 := 0) rfl rfl, fun U hU hW => ⟨rfl, by rw [hU], by rw [hU]; exact hPc, va_K.moved hW.alike hKc, hDc.weaken (fun _ _ _ _ => trivial)⟩⟩ rfl rfl hl.1 rfl (lv_room (Nat.le_of_ble_eq_true rfl)) lwd_465 ⟨by show cells + 0 + 0 ≤ 600002; omega, by show slots + 0 + 0 ≤ 7302232; omega⟩) hS (fun q _ h => hFc q h) hFc (fun r_465 u t H2 locs2 ht hvm hw hB hz1 hk1 hS => ?_)
  obtain ⟨rfl, hu, hu0⟩ := hw
  obtain ⟨hP1, hK1, hD1⟩ := hB
  rw [ht] at hP1
  have hD1 := hD1.weaken (B := fun _ => True) (fun _ _ _ _ => trivial)
  refine lv_icmp_eq (tgt := 880) hx hb lwd_468 (by decide) (fun _ => ?_) (fun z => absurd z (by decide))
  exact lw_end C9 hS (by omega) (by omega) (lv_sub hl [0, 4] rfl)
set_option maxHeartbeats 4000000 in
set_option maxRecDepth 100000 in
theorem lw_c11 {p : Program} {l : Launch} {e : Env} {s : State} {m : MethodId} {below : List Frame} {meth : Method} {c : Code} {b : Nat} {xs : Nat → Int32} {H : Heap} {locs : List Loc} {cells slots : Nat} {ls : Array Slot} {D : va_G} {x0 x1 m0 m1 o : Nat} {cX cM cO : ClassId} {f g : Nat → Int32} {h : Nat → Int64} {fx fm : List Value} (hst : l.stackTraces = false) (C0 : lw_At p s m meth c b 4 xs) (C : lw_C5 D s H locs x0 x1 m0 m1 o cX cM cO f g h fx fm) (hc : cells ≤ 1000) (hs : slots ≤ 2000000) (hl : lv_has ls 8 [(4, .int 0), (3, .ref o), (2, .ref m0), (1, .ref x0), (0, .ref b)])  : W p l e room_1 s m #[Value.ref b] below meth c H locs cells slots (lw_Z below #[Value.ref b] s) (F0 m 608 ls []) := by
  have C9 := C0
  obtain ⟨hx, hb, hr, hml, hown, hts, hX, hbl, hlocks, hgv⟩ := C0
  have hbA : ¬ (fun q : Nat => s.heap.size ≤ q) b := Nat.not_le.mpr hbl
  have hS := C.S
  refine lv_aload_n hx hb lwd_608 rfl (lv_at hl 3 rfl) ?_
  have hPx := C.P.sub (ws' := [(x0, .inr (3, fx))]) [0] rfl
  have hDx := C.A.sub (ws' := [(x0, .inr (3, fx))]) [0] (by decide) rfl
  have hKx := C.K.sub (tys' := []) [] rfl
  have hFx := va_free (wc := [(x0, .inr (3, fx))]) hDx hS (fun _ h => h) [0] rfl
  refine va_calli (va_runV (As := []) (rest := []) (C := "TableTongue") (Ts := lw_tbl) ⟨hx, hb, hml, hown, hts⟩ (r_X11_outputs l D x0 H.size fx C.x8 C.x9 C.x10 C.x11) ⟨callB_of 0 hts (lw_GoodT (List.mem_of_getElem? (i := 2091) rfl) (by decide +kernel)) rfl rfl rfl (hts _ (List.mem_of_getElem? (i := 394) (by decide +kernel))) (hts _ (List.mem_of_getElem? (i := 2088) (by decide +kernel))) ⟨by decide, by decide, by decide +kernel⟩ ⟨Nat.le_of_ble_eq_true rfl, Nat.le_of_ble_eq_true rfl⟩, hts _ (List.mem_of_getElem? (i := 2089) (by decide +kernel)), hts _ (List.mem_of_getElem? (i := 2090) (by decide +kernel))⟩ ⟨lw_PX.blind, va_recv hKx hPx (ci := 3) (q0 := 0) rfl rfl, fun U hU hW => ⟨rfl, by rw [hU], by rw [hU]; exact hPx, va_K.moved hW.alike hKx, C.E.go hW hU C.S (fun q h => Nat.le_trans C.S.1 h)⟩⟩ rfl rfl hl.1 rfl (lv_room (Nat.le_of_ble_eq_true rfl)) lwd_609 ⟨by show cells + 0 ≤ 600002; omega, by show slots + 0 ≤ 7302232; omega⟩) C.S (fun q h1 h => absurd h (Nat.not_le.mpr h1)) (fun q h => Nat.le_trans C.S.1 h) (fun r_609 u t H1 locs1 ht hvm hw _ hz1 hk1 hS => ?_)
  obtain rfl : r_609 = 0 := hw
  have C := C.kept hk1 hS
  refine lv_aload_n hx hb lwd_612 rfl (lv_at hl 2 rfl) ?_
  have hPc := C.P.sub (ws' := [(m0, .inr (0, fm))]) [2] rfl
  have hDc := C.A.sub (ws' := [(m0, .inr (0, fm))]) [2] (by decide) rfl
  have hKc := C.K.sub (tys' := []) [] rfl
  have hFc := va_free (wc := [(m0, .inr (0, fm))]) hDc hS (fun _ h => h) [0] rfl
  refine va_calli (va_runV (As := []) (rest := [.int 0]) (C := "TableTongueModel") (Ts := lw_tbl) ⟨hx, hb, hml, hown, hts⟩ (m_X12_outputs l D m0 H1.size fm C.lm 0 C.m0' C.m2 C.m3 C.m4  ) ⟨callB_of 0 hts (lw_GoodT (List.mem_of_getElem? (i := 4565) rfl) (by decide +kernel)) rfl rfl rfl (hts _ (List.mem_of_getElem? (i := 423) (by decide +kernel))) (hts _ (List.mem_of_getElem? (i := 4562) (by decide +kernel))) ⟨by decide, by decide, by decide +kernel⟩ ⟨Nat.le_of_ble_eq_true rfl, Nat.le_of_ble_eq_true rfl⟩, hts _ (List.mem_of_getElem? (i := 4563) (by decide +kernel)), hts _ (List.mem_of_getElem? (i := 4564) (by decide +kernel))⟩ ⟨lw_PM.blind, va_recv hKc hPc (ci := 0) (q0 := 0) rfl rfl, fun U hU hW => ⟨rfl, by rw [hU], by rw [hU]; exact hPc, va_K.moved hW.alike hKc, hDc.weaken (fun _ _ _ _ => trivial)⟩⟩ rfl rfl hl.1 rfl (lv_room (Nat.le_of_ble_eq_true rfl)) lwd_613 ⟨by show cells + 0 + 0 ≤ 600002; omega, by show slots + 0 + 0 ≤ 7302232; omega⟩) hS (fun q _ h => hFc q h) hFc (fun r_613 u t H2 locs2 ht hvm hw hB hz1 hk1 hS => ?_)
  obtain ⟨rfl, hu, hu0⟩ := hw
  obtain ⟨hP1, hK1, hD1⟩ := hB
  rw [ht] at hP1
  have hD1 := hD1.weaken (B := fun _ => True) (fun _ _ _ _ => trivial)
  refine lv_icmp_eq (tgt := 880) hx hb lwd_616 (by decide) (fun _ => ?_) (fun z => absurd z (by decide))
  exact lw_end C9 hS (by omega) (by omega) (lv_sub hl [0, 4] rfl)
