/-! ===== 36: the law's cases where the class throws whatever is asked (by wip/p1/law3.py) ===== -/
set_option maxHeartbeats 4000000 in
set_option maxRecDepth 100000 in
theorem lw_c4 {p : Program} {l : Launch} {e : Env} {s : State} {m : MethodId} {below : List Frame} {meth : Method} {c : Code} {b : Nat} {xs : Nat → Int32} {H : Heap} {locs : List Loc} {cells slots : Nat} {ls : Array Slot} {D : va_G} {x0 x1 m0 m1 o : Nat} {cX cM cO : ClassId} {f g : Nat → Int32} {h : Nat → Int64} {fx fm : List Value} (hst : l.stackTraces = false) (C0 : lw_At p s m meth c b 4 xs) (C : lw_C5 D s H locs x0 x1 m0 m1 o cX cM cO f g h fx fm) (hc : cells ≤ 1000) (hs : slots ≤ 2000000) (hl : lv_has ls 8 [(4, .int 0), (3, .ref o), (2, .ref m0), (1, .ref x0), (0, .ref b)])  : W p l e room_1 s m #[Value.ref b] below meth c H locs cells slots (lw_Z below #[Value.ref b] s) (F0 m 298 ls []) := by
  have C9 := C0
  obtain ⟨hx, hb, hr, hml, hown, hts, hX, hbl, hlocks, hgv⟩ := C0
  have hbA : ¬ (fun q : Nat => s.heap.size ≤ q) b := Nat.not_le.mpr hbl
  have hS := C.S
  refine lv_aload_n hx hb lwd_298 rfl (lv_at hl 3 rfl) ?_
  refine lv_aload_n hx hb lwd_299 rfl (lv_at hl 4 rfl) ?_
  refine lv_iload hx hb lwd_300 (lv_at hl 0 rfl) ?_
  refine lv_iconst (v := 1) hx hb lwd_302 (by decide) ?_
  refine lv_iadd hx hb lwd_303 ?_
  refine va_sld hx hb hX hbl hbA hS (i := (0 + 1)) (by unfold vp_in; decide) lwd_304 ?_
  refine lv_topi (fun v_1 ev_1 => ?_)
  refine lv_aload_n hx hb lwd_305 rfl (lv_at hl 4 rfl) ?_
  refine lv_iload hx hb lwd_306 (lv_at hl 0 rfl) ?_
  refine lv_iconst (v := 2) hx hb lwd_308 (by decide) ?_
  refine lv_iadd hx hb lwd_309 ?_
  refine va_sld hx hb hX hbl hbA hS (i := (0 + 2)) (by unfold vp_in; decide) lwd_310 ?_
  refine lv_topi (fun v_2 ev_2 => ?_)
  refine lv_aload_n hx hb lwd_311 rfl (lv_at hl 1 rfl) ?_
  refine va_calli (vx_runSW (Ts := lw_tbl) (own := "TableTongueLaw") (As := [.ref x0, .int v_1, .int v_2, .ref o]) (rest := []) ⟨hx, hb, hml, hown, hts⟩ (w_L_function_bad l hst D x0 H.size fx C.x8 C.x9 C.x10 C.x11 v_1 v_2 o ) (lw_csw 4 hts (List.mem_of_getElem? (i := 2140) rfl) (by decide +kernel) (List.mem_of_getElem? (i := 2138) (by decide +kernel)) (List.mem_of_getElem? (i := 2139) (by decide +kernel)) (List.mem_of_getElem? (i := 393) (by decide +kernel)) rfl rfl ⟨by decide, by decide, by decide +kernel⟩ ⟨Nat.le_of_ble_eq_true rfl, Nat.le_of_ble_eq_true rfl⟩) ⟨lw_PX.blind, fun U hU hW => ⟨rfl, by rw [hU], by rw [hU]; exact C.P.sub [0] rfl, va_K.moved hW.alike (C.K.sub (tys' := []) [] rfl), C.E.go hW hU C.S (fun q h => Nat.le_trans C.S.1 h)⟩⟩ rfl rfl hl.1 rfl (lv_room (Nat.le_of_ble_eq_true rfl)) lwd_312 ⟨by show cells + 1 ≤ 600002; omega, by show slots + 6 ≤ 7302232; omega⟩) C.S (fun q h1 h => absurd h (Nat.not_le.mpr h1)) (fun q h => Nat.le_trans C.S.1 h) (fun r_312 u t H1 locs1 ht hvm hw _ hz1 hk1 hS => ?_)
  obtain rfl : r_312 = 1 := hw
  have C := C.kept hk1 hS
  refine lv_istore (lv' := [(5, .int 1), (4, .int 0), (3, .ref o), (2, .ref m0), (1, .ref x0), (0, .ref b)]) hx hb lwd_315 hl (by decide) rfl (fun ls hl => ?_)
  refine lv_aload_n hx hb lwd_317 rfl (lv_at hl 3 rfl) ?_
  refine lv_aload_n hx hb lwd_318 rfl (lv_at hl 5 rfl) ?_
  refine lv_iload hx hb lwd_319 (lv_at hl 1 rfl) ?_
  refine lv_iconst (v := 1) hx hb lwd_321 (by decide) ?_
  refine lv_iadd hx hb lwd_322 ?_
  refine va_sld hx hb hX hbl hbA hS (i := (0 + 1)) (by unfold vp_in; decide) lwd_323 ?_
  refine lv_topi (fun v_3 ev_3 => ?_)
  refine lv_aload_n hx hb lwd_324 rfl (lv_at hl 5 rfl) ?_
  refine lv_iload hx hb lwd_325 (lv_at hl 1 rfl) ?_
  refine lv_iconst (v := 2) hx hb lwd_327 (by decide) ?_
  refine lv_iadd hx hb lwd_328 ?_
  refine va_sld hx hb hX hbl hbA hS (i := (0 + 2)) (by unfold vp_in; decide) lwd_329 ?_
  refine lv_topi (fun v_4 ev_4 => ?_)
  have hPc := C.P.sub (ws' := [(m0, .inr (0, fm))]) [2] rfl
  have hDc := C.A.sub (ws' := [(m0, .inr (0, fm))]) [2] (by decide) rfl
  have hKc := C.K.sub (tys' := []) [] rfl
  have hFc := va_free (wc := [(m0, .inr (0, fm))]) C.A C.S (fun _ h => h) [2] rfl
  refine va_calli (va_runV (As := [.int v_3, .int v_4]) (rest := []) (C := "TableTongueModel") (Ts := lw_tbl) ⟨hx, hb, hml, hown, hts⟩ (m_X12_function l D m0 H1.size fm C.lm 0 C.m0' C.m2 C.m3 C.m4 v_3 v_4 ) ⟨callB_of 2 hts (lw_GoodT (List.mem_of_getElem? (i := 4017) rfl) (by decide +kernel)) rfl rfl rfl (hts _ (List.mem_of_getElem? (i := 423) (by decide +kernel))) (hts _ (List.mem_of_getElem? (i := 4014) (by decide +kernel))) ⟨by decide, by decide, by decide +kernel⟩ ⟨Nat.le_of_ble_eq_true rfl, Nat.le_of_ble_eq_true rfl⟩, hts _ (List.mem_of_getElem? (i := 4015) (by decide +kernel)), hts _ (List.mem_of_getElem? (i := 4016) (by decide +kernel))⟩ ⟨lw_PM.blind, va_recv hKc hPc (ci := 0) (q0 := 0) rfl rfl, fun U hU hW => ⟨rfl, by rw [hU], by rw [hU]; exact hPc, va_K.moved hW.alike hKc, hDc.weaken (fun _ _ _ _ => trivial)⟩⟩ rfl rfl hl.1 rfl (lv_room (Nat.le_of_ble_eq_true rfl)) lwd_330 ⟨by show cells + 1 + 0 ≤ 600002; omega, by show slots + 6 + 0 ≤ 7302232; omega⟩) C.S (fun q _ h => hFc q h) hFc (fun r_330 u t H2 locs2 ht hvm hw hB hz1 hk1 hS => ?_)
  obtain ⟨rfl, hu, hu0⟩ := hw
  obtain ⟨hP1, hK1, hD1⟩ := hB
  rw [ht] at hP1
  have hD1 := hD1.weaken (B := fun _ => True) (fun _ _ _ _ => trivial)
  refine lv_istore (lv' := [(6, .int 0), (5, .int 1), (4, .int 0), (3, .ref o), (2, .ref m0), (1, .ref x0), (0, .ref b)]) hx hb lwd_333 hl (by decide) rfl (fun ls hl => ?_)
  refine lv_aload_n hx hb lwd_335 rfl (lv_at hl 4 rfl) ?_
  refine va_calli (va_runV (As := []) (rest := []) (C := "TableTongueModel") (Ts := lw_tbl) ⟨hx, hb, hml, hown, hts⟩ (m_X12_thrown l D m0 H2.size u 1 hu0) ⟨callB_of 0 hts (lw_GoodT (List.mem_of_getElem? (i := 3553) rfl) (by decide +kernel)) rfl rfl rfl (hts _ (List.mem_of_getElem? (i := 423) (by decide +kernel))) (hts _ (List.mem_of_getElem? (i := 3550) (by decide +kernel))) ⟨by decide, by decide, by decide +kernel⟩ ⟨Nat.le_of_ble_eq_true rfl, Nat.le_of_ble_eq_true rfl⟩, hts _ (List.mem_of_getElem? (i := 3551) (by decide +kernel)), hts _ (List.mem_of_getElem? (i := 3552) (by decide +kernel))⟩ ⟨lw_PM.blind, va_recv hKc hP1 (ci := 0) (q0 := 0) rfl rfl, fun U hU hW => ⟨rfl, by rw [hU], by rw [hU]; exact hP1, va_K.moved hW.alike hKc, hD1⟩⟩ rfl rfl hl.1 rfl (lv_room (Nat.le_of_ble_eq_true rfl)) lwd_336 ⟨by show cells + 1 + 0 + 0 ≤ 600002; omega, by show slots + 6 + 0 + 0 ≤ 7302232; omega⟩) hS (fun q h1 h => absurd h (Nat.not_le.mpr h1)) (fun q h => Nat.le_trans hS.1 h) (fun r_336 u2 t H3 locs3 ht hvm hw _ hz1 hk3 hS => ?_)
  obtain rfl : r_336 = 1 := hw
  refine lv_iload hx hb lwd_339 (lv_at hl 1 rfl) ?_
  refine lv_icmp_eq (tgt := 346) hx hb lwd_341 (by decide) (fun _ => ?_) (fun z => absurd z (by decide))
  refine lv_iload hx hb lwd_346 (lv_at hl 1 rfl) ?_
  refine lv_if_ne (tgt := 363) hx hb lwd_348 (by decide) (fun _ => ?_) (fun z => absurd z (by decide))
  refine lv_goto (tgt := 880) hx hb lwd_363 (by decide) ?_
  exact lw_end C9 hS (by omega) (by omega) (lv_sub hl [2, 6] rfl)
