/-! ===== 36: the law's cases where the class throws (by wip/p1/law3.py) ===== -/
set_option maxHeartbeats 4000000 in
set_option maxRecDepth 100000 in
theorem lw_c0b {p : Program} {l : Launch} {e : Env} {s : State} {m : MethodId} {below : List Frame} {meth : Method} {c : Code} {b : Nat} {xs : Nat → Int32} {H : Heap} {locs : List Loc} {cells slots : Nat} {ls : Array Slot} {D : va_G} {x0 x1 m0 m1 o : Nat} {cX cM cO : ClassId} {f g : Nat → Int32} {h : Nat → Int64} {fx fm : List Value} (hst : l.stackTraces = false) (C0 : lw_At p s m meth c b 4 xs) (C : lw_C5 D s H locs x0 x1 m0 m1 o cX cM cO f g h fx fm) (hc : cells ≤ 1000) (hs : slots ≤ 2000000) (hl : lv_has ls 8 [(4, .int 0), (3, .ref o), (2, .ref m0), (1, .ref x0), (0, .ref b)]) (y1 : Int32) (e_y1 : xs (0 + 1 : Int32).toNatClampNeg = y1) (hbad : y1 < 1 ∨ 8 < y1) : W p l e room_1 s m #[Value.ref b] below meth c H locs cells slots (lw_Z below #[Value.ref b] s) (F0 m 116 ls []) := by
  have C9 := C0
  obtain ⟨hx, hb, hr, hml, hown, hts, hX, hbl, hlocks, hgv⟩ := C0
  have hbA : ¬ (fun q : Nat => s.heap.size ≤ q) b := Nat.not_le.mpr hbl
  have hS := C.S
  refine lv_aload_n hx hb lwd_116 rfl (lv_at hl 3 rfl) ?_
  refine lv_aload_n hx hb lwd_117 rfl (lv_at hl 4 rfl) ?_
  refine lv_iload hx hb lwd_118 (lv_at hl 0 rfl) ?_
  refine lv_iconst (v := 1) hx hb lwd_120 (by decide) ?_
  refine lv_iadd hx hb lwd_121 ?_
  refine va_sld hx hb hX hbl hbA hS (i := (0 + 1)) (by unfold vp_in; decide) lwd_122 ?_
  refine lv_topi (fun v_1 ev_1 => ?_)
  obtain rfl : y1 = v_1 := (ev_1.trans e_y1).symm
  refine lv_aload_n hx hb lwd_123 rfl (lv_at hl 4 rfl) ?_
  refine lv_iload hx hb lwd_124 (lv_at hl 0 rfl) ?_
  refine lv_iconst (v := 2) hx hb lwd_126 (by decide) ?_
  refine lv_iadd hx hb lwd_127 ?_
  refine va_sld hx hb hX hbl hbA hS (i := (0 + 2)) (by unfold vp_in; decide) lwd_128 ?_
  refine lv_topi (fun v_2 ev_2 => ?_)
  refine lv_i2l (v := (v_2 : Int32).toInt64) hx hb lwd_129 rfl ?_
  refine lv_bipush (v := 32) hx hb lwd_130 (by decide) ?_
  refine lv_lshl hx hb lwd_132 rfl ?_
  refine lv_topl (fun v_3 ev_3 => ?_)
  refine lv_aload_n hx hb lwd_133 rfl (lv_at hl 4 rfl) ?_
  refine lv_iload hx hb lwd_134 (lv_at hl 0 rfl) ?_
  refine lv_iconst (v := 3) hx hb lwd_136 (by decide) ?_
  refine lv_iadd hx hb lwd_137 ?_
  refine va_sld hx hb hX hbl hbA hS (i := (0 + 3)) (by unfold vp_in; decide) lwd_138 ?_
  refine lv_topi (fun v_4 ev_4 => ?_)
  refine lv_i2l (v := (v_4 : Int32).toInt64) hx hb lwd_139 rfl ?_
  refine lv_ldc2 hx hb hown (hts (.constantLong "TableTongueLaw" 57 (4294967295)) (List.mem_of_getElem? (i := 4586) (by decide +kernel))) lwd_140 ?_
  refine lv_land hx hb lwd_143 ?_
  refine lv_topl (fun v_5 ev_5 => ?_)
  refine lv_lor hx hb lwd_144 ?_
  refine lv_topl (fun v_6 ev_6 => ?_)
  refine lv_aload_n hx hb lwd_145 rfl (lv_at hl 1 rfl) ?_
  refine va_calli (vx_runSW (Ts := lw_tbl) (own := "TableTongueLaw") (As := [.ref x0, .int y1, .long v_6, .ref o]) (rest := []) ⟨hx, hb, hml, hown, hts⟩ (w_L_feed_bad l hst D x0 H.size fx C.x8 C.x9 C.x10 C.x11 y1 v_6 o hbad) (lw_csw 4 hts (List.mem_of_getElem? (i := 2098) rfl) (by decide +kernel) (List.mem_of_getElem? (i := 2096) (by decide +kernel)) (List.mem_of_getElem? (i := 2097) (by decide +kernel)) (List.mem_of_getElem? (i := 393) (by decide +kernel)) rfl rfl ⟨by decide, by decide, by decide +kernel⟩ ⟨Nat.le_of_ble_eq_true rfl, Nat.le_of_ble_eq_true rfl⟩) ⟨lw_PX.blind, fun U hU hW => ⟨rfl, by rw [hU], by rw [hU]; exact C.P.sub [0] rfl, va_K.moved hW.alike (C.K.sub (tys' := []) [] rfl), C.E.go hW hU C.S (fun q h => Nat.le_trans C.S.1 h)⟩⟩ rfl rfl hl.1 rfl (lv_room (Nat.le_of_ble_eq_true rfl)) lwd_146 ⟨by show cells + 1 ≤ 600002; omega, by show slots + 6 ≤ 7302232; omega⟩) C.S (fun q h1 h => absurd h (Nat.not_le.mpr h1)) (fun q h => Nat.le_trans C.S.1 h) (fun r_146 u t H1 locs1 ht hvm hw _ hz1 hk1 hS => ?_)
  obtain rfl : r_146 = 1 := hw
  have C := C.kept hk1 hS
  refine lv_istore (lv' := [(5, .int 1), (4, .int 0), (3, .ref o), (2, .ref m0), (1, .ref x0), (0, .ref b)]) hx hb lwd_149 hl (by decide) rfl (fun ls hl => ?_)
  refine lv_aload_n hx hb lwd_151 rfl (lv_at hl 3 rfl) ?_
  refine lv_aload_n hx hb lwd_152 rfl (lv_at hl 5 rfl) ?_
  refine lv_iload hx hb lwd_153 (lv_at hl 1 rfl) ?_
  refine lv_iconst (v := 1) hx hb lwd_155 (by decide) ?_
  refine lv_iadd hx hb lwd_156 ?_
  refine va_sld hx hb hX hbl hbA hS (i := (0 + 1)) (by unfold vp_in; decide) lwd_157 ?_
  refine lv_topi (fun v_7 ev_7 => ?_)
  obtain rfl : y1 = v_7 := (ev_7.trans e_y1).symm
  refine lv_aload_n hx hb lwd_158 rfl (lv_at hl 5 rfl) ?_
  refine lv_iload hx hb lwd_159 (lv_at hl 1 rfl) ?_
  refine lv_iconst (v := 2) hx hb lwd_161 (by decide) ?_
  refine lv_iadd hx hb lwd_162 ?_
  refine va_sld hx hb hX hbl hbA hS (i := (0 + 2)) (by unfold vp_in; decide) lwd_163 ?_
  refine lv_topi (fun v_8 ev_8 => ?_)
  refine lv_i2l (v := (v_8 : Int32).toInt64) hx hb lwd_164 rfl ?_
  refine lv_bipush (v := 32) hx hb lwd_165 (by decide) ?_
  refine lv_lshl hx hb lwd_167 rfl ?_
  refine lv_topl (fun v_9 ev_9 => ?_)
  refine lv_aload_n hx hb lwd_168 rfl (lv_at hl 5 rfl) ?_
  refine lv_iload hx hb lwd_169 (lv_at hl 1 rfl) ?_
  refine lv_iconst (v := 3) hx hb lwd_171 (by decide) ?_
  refine lv_iadd hx hb lwd_172 ?_
  refine va_sld hx hb hX hbl hbA hS (i := (0 + 3)) (by unfold vp_in; decide) lwd_173 ?_
  refine lv_topi (fun v_10 ev_10 => ?_)
  refine lv_i2l (v := (v_10 : Int32).toInt64) hx hb lwd_174 rfl ?_
  refine lv_ldc2 hx hb hown (hts (.constantLong "TableTongueLaw" 57 (4294967295)) (List.mem_of_getElem? (i := 4586) (by decide +kernel))) lwd_175 ?_
  refine lv_land hx hb lwd_178 ?_
  refine lv_topl (fun v_11 ev_11 => ?_)
  refine lv_lor hx hb lwd_179 ?_
  refine lv_topl (fun v_12 ev_12 => ?_)
  have hPc := C.P.sub (ws' := [(m0, .inr (0, fm))]) [2] rfl
  have hDc := C.A.sub (ws' := [(m0, .inr (0, fm))]) [2] (by decide) rfl
  have hKc := C.K.sub (tys' := []) [] rfl
  have hFc := va_free (wc := [(m0, .inr (0, fm))]) hDc hS (fun _ h => h) [0] rfl
  refine va_calli (va_runV (As := [.int y1, .long v_12]) (rest := []) (C := "TableTongueModel") (Ts := lw_tbl) ⟨hx, hb, hml, hown, hts⟩ (m_X12_feed_bad l D m0 H1.size fm C.lm 0 C.m0' C.m2 C.m3 C.m4 y1 v_12 hbad) ⟨callB_of 2 hts (lw_GoodT (List.mem_of_getElem? (i := 3557) rfl) (by decide +kernel)) rfl rfl rfl (hts _ (List.mem_of_getElem? (i := 423) (by decide +kernel))) (hts _ (List.mem_of_getElem? (i := 3554) (by decide +kernel))) ⟨by decide, by decide, by decide +kernel⟩ ⟨Nat.le_of_ble_eq_true rfl, Nat.le_of_ble_eq_true rfl⟩, hts _ (List.mem_of_getElem? (i := 3555) (by decide +kernel)), hts _ (List.mem_of_getElem? (i := 3556) (by decide +kernel))⟩ ⟨lw_PM.blind, va_recv hKc hPc (ci := 0) (q0 := 0) rfl rfl, fun U hU hW => ⟨rfl, by rw [hU], by rw [hU]; exact hPc, va_K.moved hW.alike hKc, hDc.weaken (fun _ _ _ _ => trivial)⟩⟩ rfl rfl hl.1 rfl (lv_room (Nat.le_of_ble_eq_true rfl)) lwd_180 ⟨by show cells + 1 + 0 ≤ 600002; omega, by show slots + 6 + 0 ≤ 7302232; omega⟩) hS (fun q _ h => hFc q h) hFc (fun r_180 u t H2 locs2 ht hvm hw hB hz1 hk1 hS => ?_)
  obtain ⟨rfl, hu, hu0⟩ := hw
  obtain ⟨hP1, hK1, hD1⟩ := hB
  rw [ht] at hP1
  have hD1 := hD1.weaken (B := fun _ => True) (fun _ _ _ _ => trivial)
  refine lv_istore (lv' := [(6, .int 0), (5, .int 1), (4, .int 0), (3, .ref o), (2, .ref m0), (1, .ref x0), (0, .ref b)]) hx hb lwd_183 hl (by decide) rfl (fun ls hl => ?_)
  refine lv_aload_n hx hb lwd_185 rfl (lv_at hl 4 rfl) ?_
  refine va_calli (va_runV (As := []) (rest := []) (C := "TableTongueModel") (Ts := lw_tbl) ⟨hx, hb, hml, hown, hts⟩ (m_X12_thrown l D m0 H2.size u 1 hu0) ⟨callB_of 0 hts (lw_GoodT (List.mem_of_getElem? (i := 3553) rfl) (by decide +kernel)) rfl rfl rfl (hts _ (List.mem_of_getElem? (i := 423) (by decide +kernel))) (hts _ (List.mem_of_getElem? (i := 3550) (by decide +kernel))) ⟨by decide, by decide, by decide +kernel⟩ ⟨Nat.le_of_ble_eq_true rfl, Nat.le_of_ble_eq_true rfl⟩, hts _ (List.mem_of_getElem? (i := 3551) (by decide +kernel)), hts _ (List.mem_of_getElem? (i := 3552) (by decide +kernel))⟩ ⟨lw_PM.blind, va_recv hKc hP1 (ci := 0) (q0 := 0) rfl rfl, fun U hU hW => ⟨rfl, by rw [hU], by rw [hU]; exact hP1, va_K.moved hW.alike hKc, hD1⟩⟩ rfl rfl hl.1 rfl (lv_room (Nat.le_of_ble_eq_true rfl)) lwd_186 ⟨by show cells + 1 + 0 + 0 ≤ 600002; omega, by show slots + 6 + 0 + 0 ≤ 7302232; omega⟩) hS (fun q h1 h => absurd h (Nat.not_le.mpr h1)) (fun q h => Nat.le_trans hS.1 h) (fun r_186 u2 t H3 locs3 ht hvm hw _ hz1 hk3 hS => ?_)
  obtain rfl : r_186 = 1 := hw
  refine lv_iload hx hb lwd_189 (lv_at hl 1 rfl) ?_
  refine lv_icmp_eq (tgt := 196) hx hb lwd_191 (by decide) (fun _ => ?_) (fun z => absurd z (by decide))
  refine lv_iload hx hb lwd_196 (lv_at hl 1 rfl) ?_
  refine lv_if_ne (tgt := 213) hx hb lwd_198 (by decide) (fun _ => ?_) (fun z => absurd z (by decide))
  refine lv_goto (tgt := 880) hx hb lwd_213 (by decide) ?_
  exact lw_end C9 hS (by omega) (by omega) (lv_sub hl [2, 6] rfl)
set_option maxHeartbeats 4000000 in
set_option maxRecDepth 100000 in
theorem lw_c3b {p : Program} {l : Launch} {e : Env} {s : State} {m : MethodId} {below : List Frame} {meth : Method} {c : Code} {b : Nat} {xs : Nat → Int32} {H : Heap} {locs : List Loc} {cells slots : Nat} {ls : Array Slot} {D : va_G} {x0 x1 m0 m1 o : Nat} {cX cM cO : ClassId} {f g : Nat → Int32} {h : Nat → Int64} {fx fm : List Value} (hst : l.stackTraces = false) (C0 : lw_At p s m meth c b 4 xs) (C : lw_C5 D s H locs x0 x1 m0 m1 o cX cM cO f g h fx fm) (hc : cells ≤ 1000) (hs : slots ≤ 2000000) (hl : lv_has ls 8 [(4, .int 0), (3, .ref o), (2, .ref m0), (1, .ref x0), (0, .ref b)]) (y1 : Int32) (e_y1 : xs (0 + 1 : Int32).toNatClampNeg = y1) (hbad : y1 < 0 ∨ ¬ y1 ≤ 1) (hb0 : ¬ y1 = 0) (hb1 : ¬ y1 = 1) : W p l e room_1 s m #[Value.ref b] below meth c H locs cells slots (lw_Z below #[Value.ref b] s) (F0 m 242 ls []) := by
  have C9 := C0
  obtain ⟨hx, hb, hr, hml, hown, hts, hX, hbl, hlocks, hgv⟩ := C0
  have hbA : ¬ (fun q : Nat => s.heap.size ≤ q) b := Nat.not_le.mpr hbl
  have hS := C.S
  refine lv_aload_n hx hb lwd_242 rfl (lv_at hl 3 rfl) ?_
  refine lv_aload_n hx hb lwd_243 rfl (lv_at hl 4 rfl) ?_
  refine lv_iload hx hb lwd_244 (lv_at hl 0 rfl) ?_
  refine lv_iconst (v := 1) hx hb lwd_246 (by decide) ?_
  refine lv_iadd hx hb lwd_247 ?_
  refine va_sld hx hb hX hbl hbA hS (i := (0 + 1)) (by unfold vp_in; decide) lwd_248 ?_
  refine lv_topi (fun v_1 ev_1 => ?_)
  obtain rfl : y1 = v_1 := (ev_1.trans e_y1).symm
  refine lv_aload_n hx hb lwd_249 rfl (lv_at hl 1 rfl) ?_
  refine va_calli (vx_runSW (Ts := lw_tbl) (own := "TableTongueLaw") (As := [.ref x0, .int y1, .ref o]) (rest := []) ⟨hx, hb, hml, hown, hts⟩ (w_L_fault_bad l hst D x0 H.size fx C.x8 C.x9 C.x10 C.x11 y1 o hbad) (lw_csw 3 hts (List.mem_of_getElem? (i := 2117) rfl) (by decide +kernel) (List.mem_of_getElem? (i := 2115) (by decide +kernel)) (List.mem_of_getElem? (i := 2116) (by decide +kernel)) (List.mem_of_getElem? (i := 393) (by decide +kernel)) rfl rfl ⟨by decide, by decide, by decide +kernel⟩ ⟨Nat.le_of_ble_eq_true rfl, Nat.le_of_ble_eq_true rfl⟩) ⟨lw_PX.blind, fun U hU hW => ⟨rfl, by rw [hU], by rw [hU]; exact C.P.sub [0] rfl, va_K.moved hW.alike (C.K.sub (tys' := []) [] rfl), C.E.go hW hU C.S (fun q h => Nat.le_trans C.S.1 h)⟩⟩ rfl rfl hl.1 rfl (lv_room (Nat.le_of_ble_eq_true rfl)) lwd_250 ⟨by show cells + 1 ≤ 600002; omega, by show slots + 6 ≤ 7302232; omega⟩) C.S (fun q h1 h => absurd h (Nat.not_le.mpr h1)) (fun q h => Nat.le_trans C.S.1 h) (fun r_250 u t H1 locs1 ht hvm hw _ hz1 hk1 hS => ?_)
  obtain rfl : r_250 = 1 := hw
  have C := C.kept hk1 hS
  refine lv_istore (lv' := [(5, .int 1), (4, .int 0), (3, .ref o), (2, .ref m0), (1, .ref x0), (0, .ref b)]) hx hb lwd_253 hl (by decide) rfl (fun ls hl => ?_)
  refine lv_aload_n hx hb lwd_255 rfl (lv_at hl 3 rfl) ?_
  refine lv_aload_n hx hb lwd_256 rfl (lv_at hl 5 rfl) ?_
  refine lv_iload hx hb lwd_257 (lv_at hl 1 rfl) ?_
  refine lv_iconst (v := 1) hx hb lwd_259 (by decide) ?_
  refine lv_iadd hx hb lwd_260 ?_
  refine va_sld hx hb hX hbl hbA hS (i := (0 + 1)) (by unfold vp_in; decide) lwd_261 ?_
  refine lv_topi (fun v_2 ev_2 => ?_)
  obtain rfl : y1 = v_2 := (ev_2.trans e_y1).symm
  have hPc := C.P.sub (ws' := [(m0, .inr (0, fm))]) [2] rfl
  have hDc := C.A.sub (ws' := [(m0, .inr (0, fm))]) [2] (by decide) rfl
  have hKc := C.K.sub (tys' := []) [] rfl
  have hFc := va_free (wc := [(m0, .inr (0, fm))]) hDc hS (fun _ h => h) [0] rfl
  refine va_calli (va_runV (As := [.int y1]) (rest := []) (C := "TableTongueModel") (Ts := lw_tbl) ⟨hx, hb, hml, hown, hts⟩ (m_X12_fault_bad l D m0 H1.size fm C.lm 0 C.m0' C.m2 C.m3 C.m4 y1 hb0 hb1) ⟨callB_of 1 hts (lw_GoodT (List.mem_of_getElem? (i := 4013) rfl) (by decide +kernel)) rfl rfl rfl (hts _ (List.mem_of_getElem? (i := 423) (by decide +kernel))) (hts _ (List.mem_of_getElem? (i := 4010) (by decide +kernel))) ⟨by decide, by decide, by decide +kernel⟩ ⟨Nat.le_of_ble_eq_true rfl, Nat.le_of_ble_eq_true rfl⟩, hts _ (List.mem_of_getElem? (i := 4011) (by decide +kernel)), hts _ (List.mem_of_getElem? (i := 4012) (by decide +kernel))⟩ ⟨lw_PM.blind, va_recv hKc hPc (ci := 0) (q0 := 0) rfl rfl, fun U hU hW => ⟨rfl, by rw [hU], by rw [hU]; exact hPc, va_K.moved hW.alike hKc, hDc.weaken (fun _ _ _ _ => trivial)⟩⟩ rfl rfl hl.1 rfl (lv_room (Nat.le_of_ble_eq_true rfl)) lwd_262 ⟨by show cells + 1 + 0 ≤ 600002; omega, by show slots + 6 + 0 ≤ 7302232; omega⟩) hS (fun q _ h => hFc q h) hFc (fun r_262 u t H2 locs2 ht hvm hw hB hz1 hk1 hS => ?_)
  obtain ⟨rfl, hu, hu0⟩ := hw
  obtain ⟨hP1, hK1, hD1⟩ := hB
  rw [ht] at hP1
  have hD1 := hD1.weaken (B := fun _ => True) (fun _ _ _ _ => trivial)
  refine lv_istore (lv' := [(6, .int (-1)), (5, .int 1), (4, .int 0), (3, .ref o), (2, .ref m0), (1, .ref x0), (0, .ref b)]) hx hb lwd_265 hl (by decide) rfl (fun ls hl => ?_)
  refine lv_aload_n hx hb lwd_267 rfl (lv_at hl 4 rfl) ?_
  refine va_calli (va_runV (As := []) (rest := []) (C := "TableTongueModel") (Ts := lw_tbl) ⟨hx, hb, hml, hown, hts⟩ (m_X12_thrown l D m0 H2.size u 1 hu0) ⟨callB_of 0 hts (lw_GoodT (List.mem_of_getElem? (i := 3553) rfl) (by decide +kernel)) rfl rfl rfl (hts _ (List.mem_of_getElem? (i := 423) (by decide +kernel))) (hts _ (List.mem_of_getElem? (i := 3550) (by decide +kernel))) ⟨by decide, by decide, by decide +kernel⟩ ⟨Nat.le_of_ble_eq_true rfl, Nat.le_of_ble_eq_true rfl⟩, hts _ (List.mem_of_getElem? (i := 3551) (by decide +kernel)), hts _ (List.mem_of_getElem? (i := 3552) (by decide +kernel))⟩ ⟨lw_PM.blind, va_recv hKc hP1 (ci := 0) (q0 := 0) rfl rfl, fun U hU hW => ⟨rfl, by rw [hU], by rw [hU]; exact hP1, va_K.moved hW.alike hKc, hD1⟩⟩ rfl rfl hl.1 rfl (lv_room (Nat.le_of_ble_eq_true rfl)) lwd_268 ⟨by show cells + 1 + 0 + 0 ≤ 600002; omega, by show slots + 6 + 0 + 0 ≤ 7302232; omega⟩) hS (fun q h1 h => absurd h (Nat.not_le.mpr h1)) (fun q h => Nat.le_trans hS.1 h) (fun r_268 u2 t H3 locs3 ht hvm hw _ hz1 hk3 hS => ?_)
  obtain rfl : r_268 = 1 := hw
  refine lv_iload hx hb lwd_271 (lv_at hl 1 rfl) ?_
  refine lv_icmp_eq (tgt := 278) hx hb lwd_273 (by decide) (fun _ => ?_) (fun z => absurd z (by decide))
  refine lv_iload hx hb lwd_278 (lv_at hl 1 rfl) ?_
  refine lv_if_ne (tgt := 295) hx hb lwd_280 (by decide) (fun _ => ?_) (fun z => absurd z (by decide))
  refine lv_goto (tgt := 880) hx hb lwd_295 (by decide) ?_
  exact lw_end C9 hS (by omega) (by omega) (lv_sub hl [2, 6] rfl)
set_option maxHeartbeats 4000000 in
set_option maxRecDepth 100000 in
theorem lw_c4 {p : Program} {l : Launch} {e : Env} {s : State} {m : MethodId} {below : List Frame} {meth : Method} {c : Code} {b : Nat} {xs : Nat → Int32} {H : Heap} {locs : List Loc} {cells slots : Nat} {ls : Array Slot} {D : va_G} {x0 x1 m0 m1 o : Nat} {cX cM cO : ClassId} {f g : Nat → Int32} {h : Nat → Int64} {fx fm : List Value} (hst : l.stackTraces = false) (C0 : lw_At p s m meth c b 4 xs) (C : lw_C5 D s H locs x0 x1 m0 m1 o cX cM cO f g h fx fm) (hc : cells ≤ 1000) (hs : slots ≤ 2000000) (hl : lv_has ls 8 [(4, .int 0), (3, .ref o), (2, .ref m0), (1, .ref x0), (0, .ref b)])  : W p l e room_1 s m #[Value.ref b] below meth c H locs cells slots (lw_Z below #[Value.ref b] s) (F0 m 298 ls []) := by
  have C9 := C0
  obtain ⟨hx, hb, hr, hml, hown, hts, hX, hbl, hlocks, hgv⟩ := C0
  have hbA : ¬ (fun q : Nat => s.heap.size ≤ q) b := Nat.not_le.mpr hbl
  have hS := C.S
  refine lv_aload_n hx hb lwd_298 rfl (lv_at hl 3 rfl) ?_
  refine lv_aload_n hx hb lwd_299 rfl (lv_at hl 4 rfl) ?_
  refine lv_iload hx hb lwd_300 (lv_at hl 0 rfl) ?_
  refine lv_iconst (v := 1) hx hb lwd_302 (by decide) ?_
  refine lv_iadd hx hb lwd_303 ?_
  refine va_sld hx hb hX hbl hbA hS (i := (0 + 1)) (by unfold vp_in; decide) lwd_304 ?_
  refine lv_topi (fun v_1 ev_1 => ?_)
  refine lv_aload_n hx hb lwd_305 rfl (lv_at hl 4 rfl) ?_
  refine lv_iload hx hb lwd_306 (lv_at hl 0 rfl) ?_
  refine lv_iconst (v := 2) hx hb lwd_308 (by decide) ?_
  refine lv_iadd hx hb lwd_309 ?_
  refine va_sld hx hb hX hbl hbA hS (i := (0 + 2)) (by unfold vp_in; decide) lwd_310 ?_
  refine lv_topi (fun v_2 ev_2 => ?_)
  refine lv_aload_n hx hb lwd_311 rfl (lv_at hl 1 rfl) ?_
  refine va_calli (vx_runSW (Ts := lw_tbl) (own := "TableTongueLaw") (As := [.ref x0, .int v_1, .int v_2, .ref o]) (rest := []) ⟨hx, hb, hml, hown, hts⟩ (w_L_function_bad l hst D x0 H.size fx C.x8 C.x9 C.x10 C.x11 v_1 v_2 o ) (lw_csw 4 hts (List.mem_of_getElem? (i := 2140) rfl) (by decide +kernel) (List.mem_of_getElem? (i := 2138) (by decide +kernel)) (List.mem_of_getElem? (i := 2139) (by decide +kernel)) (List.mem_of_getElem? (i := 393) (by decide +kernel)) rfl rfl ⟨by decide, by decide, by decide +kernel⟩ ⟨Nat.le_of_ble_eq_true rfl, Nat.le_of_ble_eq_true rfl⟩) ⟨lw_PX.blind, fun U hU hW => ⟨rfl, by rw [hU], by rw [hU]; exact C.P.sub [0] rfl, va_K.moved hW.alike (C.K.sub (tys' := []) [] rfl), C.E.go hW hU C.S (fun q h => Nat.le_trans C.S.1 h)⟩⟩ rfl rfl hl.1 rfl (lv_room (Nat.le_of_ble_eq_true rfl)) lwd_312 ⟨by show cells + 1 ≤ 600002; omega, by show slots + 6 ≤ 7302232; omega⟩) C.S (fun q h1 h => absurd h (Nat.not_le.mpr h1)) (fun q h => Nat.le_trans C.S.1 h) (fun r_312 u t H1 locs1 ht hvm hw _ hz1 hk1 hS => ?_)
  obtain rfl : r_312 = 1 := hw
  have C := C.kept hk1 hS
  refine lv_istore (lv' := [(5, .int 1), (4, .int 0), (3, .ref o), (2, .ref m0), (1, .ref x0), (0, .ref b)]) hx hb lwd_315 hl (by decide) rfl (fun ls hl => ?_)
  refine lv_aload_n hx hb lwd_317 rfl (lv_at hl 3 rfl) ?_
  refine lv_aload_n hx hb lwd_318 rfl (lv_at hl 5 rfl) ?_
  refine lv_iload hx hb lwd_319 (lv_at hl 1 rfl) ?_
  refine lv_iconst (v := 1) hx hb lwd_321 (by decide) ?_
  refine lv_iadd hx hb lwd_322 ?_
  refine va_sld hx hb hX hbl hbA hS (i := (0 + 1)) (by unfold vp_in; decide) lwd_323 ?_
  refine lv_topi (fun v_3 ev_3 => ?_)
  refine lv_aload_n hx hb lwd_324 rfl (lv_at hl 5 rfl) ?_
  refine lv_iload hx hb lwd_325 (lv_at hl 1 rfl) ?_
  refine lv_iconst (v := 2) hx hb lwd_327 (by decide) ?_
  refine lv_iadd hx hb lwd_328 ?_
  refine va_sld hx hb hX hbl hbA hS (i := (0 + 2)) (by unfold vp_in; decide) lwd_329 ?_
  refine lv_topi (fun v_4 ev_4 => ?_)
  have hPc := C.P.sub (ws' := [(m0, .inr (0, fm))]) [2] rfl
  have hDc := C.A.sub (ws' := [(m0, .inr (0, fm))]) [2] (by decide) rfl
  have hKc := C.K.sub (tys' := []) [] rfl
  have hFc := va_free (wc := [(m0, .inr (0, fm))]) hDc hS (fun _ h => h) [0] rfl
  refine va_calli (va_runV (As := [.int v_3, .int v_4]) (rest := []) (C := "TableTongueModel") (Ts := lw_tbl) ⟨hx, hb, hml, hown, hts⟩ (m_X12_function l D m0 H1.size fm C.lm 0 C.m0' C.m2 C.m3 C.m4 v_3 v_4 ) ⟨callB_of 2 hts (lw_GoodT (List.mem_of_getElem? (i := 4017) rfl) (by decide +kernel)) rfl rfl rfl (hts _ (List.mem_of_getElem? (i := 423) (by decide +kernel))) (hts _ (List.mem_of_getElem? (i := 4014) (by decide +kernel))) ⟨by decide, by decide, by decide +kernel⟩ ⟨Nat.le_of_ble_eq_true rfl, Nat.le_of_ble_eq_true rfl⟩, hts _ (List.mem_of_getElem? (i := 4015) (by decide +kernel)), hts _ (List.mem_of_getElem? (i := 4016) (by decide +kernel))⟩ ⟨lw_PM.blind, va_recv hKc hPc (ci := 0) (q0 := 0) rfl rfl, fun U hU hW => ⟨rfl, by rw [hU], by rw [hU]; exact hPc, va_K.moved hW.alike hKc, hDc.weaken (fun _ _ _ _ => trivial)⟩⟩ rfl rfl hl.1 rfl (lv_room (Nat.le_of_ble_eq_true rfl)) lwd_330 ⟨by show cells + 1 + 0 ≤ 600002; omega, by show slots + 6 + 0 ≤ 7302232; omega⟩) hS (fun q _ h => hFc q h) hFc (fun r_330 u t H2 locs2 ht hvm hw hB hz1 hk1 hS => ?_)
  obtain ⟨rfl, hu, hu0⟩ := hw
  obtain ⟨hP1, hK1, hD1⟩ := hB
  rw [ht] at hP1
  have hD1 := hD1.weaken (B := fun _ => True) (fun _ _ _ _ => trivial)
  refine lv_istore (lv' := [(6, .int 0), (5, .int 1), (4, .int 0), (3, .ref o), (2, .ref m0), (1, .ref x0), (0, .ref b)]) hx hb lwd_333 hl (by decide) rfl (fun ls hl => ?_)
  refine lv_aload_n hx hb lwd_335 rfl (lv_at hl 4 rfl) ?_
  refine va_calli (va_runV (As := []) (rest := []) (C := "TableTongueModel") (Ts := lw_tbl) ⟨hx, hb, hml, hown, hts⟩ (m_X12_thrown l D m0 H2.size u 1 hu0) ⟨callB_of 0 hts (lw_GoodT (List.mem_of_getElem? (i := 3553) rfl) (by decide +kernel)) rfl rfl rfl (hts _ (List.mem_of_getElem? (i := 423) (by decide +kernel))) (hts _ (List.mem_of_getElem? (i := 3550) (by decide +kernel))) ⟨by decide, by decide, by decide +kernel⟩ ⟨Nat.le_of_ble_eq_true rfl, Nat.le_of_ble_eq_true rfl⟩, hts _ (List.mem_of_getElem? (i := 3551) (by decide +kernel)), hts _ (List.mem_of_getElem? (i := 3552) (by decide +kernel))⟩ ⟨lw_PM.blind, va_recv hKc hP1 (ci := 0) (q0 := 0) rfl rfl, fun U hU hW => ⟨rfl, by rw [hU], by rw [hU]; exact hP1, va_K.moved hW.alike hKc, hD1⟩⟩ rfl rfl hl.1 rfl (lv_room (Nat.le_of_ble_eq_true rfl)) lwd_336 ⟨by show cells + 1 + 0 + 0 ≤ 600002; omega, by show slots + 6 + 0 + 0 ≤ 7302232; omega⟩) hS (fun q h1 h => absurd h (Nat.not_le.mpr h1)) (fun q h => Nat.le_trans hS.1 h) (fun r_336 u2 t H3 locs3 ht hvm hw _ hz1 hk3 hS => ?_)
  obtain rfl : r_336 = 1 := hw
  refine lv_iload hx hb lwd_339 (lv_at hl 1 rfl) ?_
  refine lv_icmp_eq (tgt := 346) hx hb lwd_341 (by decide) (fun _ => ?_) (fun z => absurd z (by decide))
  refine lv_iload hx hb lwd_346 (lv_at hl 1 rfl) ?_
  refine lv_if_ne (tgt := 363) hx hb lwd_348 (by decide) (fun _ => ?_) (fun z => absurd z (by decide))
  refine lv_goto (tgt := 880) hx hb lwd_363 (by decide) ?_
  exact lw_end C9 hS (by omega) (by omega) (lv_sub hl [2, 6] rfl)
set_option maxHeartbeats 4000000 in
set_option maxRecDepth 100000 in
theorem lw_c5 {p : Program} {l : Launch} {e : Env} {s : State} {m : MethodId} {below : List Frame} {meth : Method} {c : Code} {b : Nat} {xs : Nat → Int32} {H : Heap} {locs : List Loc} {cells slots : Nat} {ls : Array Slot} {D : va_G} {x0 x1 m0 m1 o : Nat} {cX cM cO : ClassId} {f g : Nat → Int32} {h : Nat → Int64} {fx fm : List Value} (hst : l.stackTraces = false) (C0 : lw_At p s m meth c b 4 xs) (C : lw_C5 D s H locs x0 x1 m0 m1 o cX cM cO f g h fx fm) (hc : cells ≤ 1000) (hs : slots ≤ 2000000) (hl : lv_has ls 8 [(4, .int 0), (3, .ref o), (2, .ref m0), (1, .ref x0), (0, .ref b)])  : W p l e room_1 s m #[Value.ref b] below meth c H locs cells slots (lw_Z below #[Value.ref b] s) (F0 m 366 ls []) := by
  have C9 := C0
  obtain ⟨hx, hb, hr, hml, hown, hts, hX, hbl, hlocks, hgv⟩ := C0
  have hbA : ¬ (fun q : Nat => s.heap.size ≤ q) b := Nat.not_le.mpr hbl
  have hS := C.S
  refine lv_aload_n hx hb lwd_366 rfl (lv_at hl 3 rfl) ?_
  refine va_calli (vx_runSW (Ts := lw_tbl) (own := "TableTongueLaw") (As := [.ref x0]) (rest := []) ⟨hx, hb, hml, hown, hts⟩ (w_L_load_bad l hst D x0 H.size fx C.x8 C.x9 C.x10 C.x11  ) (lw_csw 1 hts (List.mem_of_getElem? (i := 2147) rfl) (by decide +kernel) (List.mem_of_getElem? (i := 2145) (by decide +kernel)) (List.mem_of_getElem? (i := 2146) (by decide +kernel)) (List.mem_of_getElem? (i := 393) (by decide +kernel)) rfl rfl ⟨by decide, by decide, by decide +kernel⟩ ⟨Nat.le_of_ble_eq_true rfl, Nat.le_of_ble_eq_true rfl⟩) ⟨lw_PX.blind, fun U hU hW => ⟨rfl, by rw [hU], by rw [hU]; exact C.P.sub [0] rfl, va_K.moved hW.alike (C.K.sub (tys' := []) [] rfl), C.E.go hW hU C.S (fun q h => Nat.le_trans C.S.1 h)⟩⟩ rfl rfl hl.1 rfl (lv_room (Nat.le_of_ble_eq_true rfl)) lwd_367 ⟨by show cells + 1 ≤ 600002; omega, by show slots + 6 ≤ 7302232; omega⟩) C.S (fun q h1 h => absurd h (Nat.not_le.mpr h1)) (fun q h => Nat.le_trans C.S.1 h) (fun r_367 u t H1 locs1 ht hvm hw _ hz1 hk1 hS => ?_)
  obtain rfl : r_367 = 1 := hw
  have C := C.kept hk1 hS
  refine lv_istore (lv' := [(5, .int 1), (4, .int 0), (3, .ref o), (2, .ref m0), (1, .ref x0), (0, .ref b)]) hx hb lwd_370 hl (by decide) rfl (fun ls hl => ?_)
  refine lv_aload_n hx hb lwd_372 rfl (lv_at hl 3 rfl) ?_
  have hPc := C.P.sub (ws' := [(m0, .inr (0, fm))]) [2] rfl
  have hDc := C.A.sub (ws' := [(m0, .inr (0, fm))]) [2] (by decide) rfl
  have hKc := C.K.sub (tys' := []) [] rfl
  have hFc := va_free (wc := [(m0, .inr (0, fm))]) hDc hS (fun _ h => h) [0] rfl
  refine va_callv (va_runV (As := []) (rest := []) (C := "TableTongueModel") (Ts := lw_tbl) ⟨hx, hb, hml, hown, hts⟩ (m_X12_load l D m0 H1.size fm C.lm 0 C.m0' C.m2 C.m3 C.m4  ) ⟨callB_of 0 hts (lw_GoodT (List.mem_of_getElem? (i := 4021) rfl) (by decide +kernel)) rfl rfl rfl (hts _ (List.mem_of_getElem? (i := 423) (by decide +kernel))) (hts _ (List.mem_of_getElem? (i := 4018) (by decide +kernel))) ⟨by decide, by decide, by decide +kernel⟩ ⟨Nat.le_of_ble_eq_true rfl, Nat.le_of_ble_eq_true rfl⟩, hts _ (List.mem_of_getElem? (i := 4019) (by decide +kernel)), hts _ (List.mem_of_getElem? (i := 4020) (by decide +kernel))⟩ ⟨lw_PM.blind, va_recv hKc hPc (ci := 0) (q0 := 0) rfl rfl, fun U hU hW => ⟨rfl, by rw [hU], by rw [hU]; exact hPc, va_K.moved hW.alike hKc, hDc.weaken (fun _ _ _ _ => trivial)⟩⟩ rfl rfl hl.1 rfl (lv_room (Nat.le_of_ble_eq_true rfl)) lwd_373 ⟨by show cells + 1 + 0 ≤ 600002; omega, by show slots + 6 + 0 ≤ 7302232; omega⟩) hS (fun q _ h => hFc q h) hFc (fun u t H2 locs2 ht hvm hw hB hz1 hk1 hS => ?_)
  obtain ⟨hu, hu0⟩ := hw
  obtain ⟨hP1, hK1, hD1⟩ := hB
  rw [ht] at hP1
  have hD1 := hD1.weaken (B := fun _ => True) (fun _ _ _ _ => trivial)
  refine lv_aload_n hx hb lwd_376 rfl (lv_at hl 3 rfl) ?_
  refine va_calli (va_runV (As := []) (rest := []) (C := "TableTongueModel") (Ts := lw_tbl) ⟨hx, hb, hml, hown, hts⟩ (m_X12_thrown l D m0 H2.size u 1 hu0) ⟨callB_of 0 hts (lw_GoodT (List.mem_of_getElem? (i := 3553) rfl) (by decide +kernel)) rfl rfl rfl (hts _ (List.mem_of_getElem? (i := 423) (by decide +kernel))) (hts _ (List.mem_of_getElem? (i := 3550) (by decide +kernel))) ⟨by decide, by decide, by decide +kernel⟩ ⟨Nat.le_of_ble_eq_true rfl, Nat.le_of_ble_eq_true rfl⟩, hts _ (List.mem_of_getElem? (i := 3551) (by decide +kernel)), hts _ (List.mem_of_getElem? (i := 3552) (by decide +kernel))⟩ ⟨lw_PM.blind, va_recv hKc hP1 (ci := 0) (q0 := 0) rfl rfl, fun U hU hW => ⟨rfl, by rw [hU], by rw [hU]; exact hP1, va_K.moved hW.alike hKc, hD1⟩⟩ rfl rfl hl.1 rfl (lv_room (Nat.le_of_ble_eq_true rfl)) lwd_377 ⟨by show cells + 1 + 0 + 0 ≤ 600002; omega, by show slots + 6 + 0 + 0 ≤ 7302232; omega⟩) hS (fun q h1 h => absurd h (Nat.not_le.mpr h1)) (fun q h => Nat.le_trans hS.1 h) (fun r_377 u2 t H3 locs3 ht hvm hw _ hz1 hk3 hS => ?_)
  obtain rfl : r_377 = 1 := hw
  refine lv_iload hx hb lwd_380 (lv_at hl 0 rfl) ?_
  refine lv_icmp_eq (tgt := 387) hx hb lwd_382 (by decide) (fun _ => ?_) (fun z => absurd z (by decide))
  refine lv_goto (tgt := 880) hx hb lwd_387 (by decide) ?_
  exact lw_end C9 hS (by omega) (by omega) (lv_sub hl [1, 5] rfl)
set_option maxHeartbeats 4000000 in
set_option maxRecDepth 100000 in
theorem lw_c6 {p : Program} {l : Launch} {e : Env} {s : State} {m : MethodId} {below : List Frame} {meth : Method} {c : Code} {b : Nat} {xs : Nat → Int32} {H : Heap} {locs : List Loc} {cells slots : Nat} {ls : Array Slot} {D : va_G} {x0 x1 m0 m1 o : Nat} {cX cM cO : ClassId} {f g : Nat → Int32} {h : Nat → Int64} {fx fm : List Value} (hst : l.stackTraces = false) (C0 : lw_At p s m meth c b 4 xs) (C : lw_C5 D s H locs x0 x1 m0 m1 o cX cM cO f g h fx fm) (hc : cells ≤ 1000) (hs : slots ≤ 2000000) (hl : lv_has ls 8 [(4, .int 0), (3, .ref o), (2, .ref m0), (1, .ref x0), (0, .ref b)])  : W p l e room_1 s m #[Value.ref b] below meth c H locs cells slots (lw_Z below #[Value.ref b] s) (F0 m 390 ls []) := by
  have C9 := C0
  obtain ⟨hx, hb, hr, hml, hown, hts, hX, hbl, hlocks, hgv⟩ := C0
  have hbA : ¬ (fun q : Nat => s.heap.size ≤ q) b := Nat.not_le.mpr hbl
  have hS := C.S
  refine lv_aload_n hx hb lwd_390 rfl (lv_at hl 3 rfl) ?_
  refine lv_aload_n hx hb lwd_391 rfl (lv_at hl 4 rfl) ?_
  refine lv_iload hx hb lwd_392 (lv_at hl 0 rfl) ?_
  refine lv_iconst (v := 1) hx hb lwd_394 (by decide) ?_
  refine lv_iadd hx hb lwd_395 ?_
  refine va_sld hx hb hX hbl hbA hS (i := (0 + 1)) (by unfold vp_in; decide) lwd_396 ?_
  refine lv_topi (fun v_1 ev_1 => ?_)
  refine lv_aload_n hx hb lwd_397 rfl (lv_at hl 1 rfl) ?_
  refine va_calli (vx_runSW (Ts := lw_tbl) (own := "TableTongueLaw") (As := [.ref x0, .int v_1, .ref o]) (rest := []) ⟨hx, hb, hml, hown, hts⟩ (w_L_run_bad l hst D x0 H.size fx C.x8 C.x9 C.x10 C.x11 v_1 o ) (lw_csw 3 hts (List.mem_of_getElem? (i := 2170) rfl) (by decide +kernel) (List.mem_of_getElem? (i := 2168) (by decide +kernel)) (List.mem_of_getElem? (i := 2169) (by decide +kernel)) (List.mem_of_getElem? (i := 393) (by decide +kernel)) rfl rfl ⟨by decide, by decide, by decide +kernel⟩ ⟨Nat.le_of_ble_eq_true rfl, Nat.le_of_ble_eq_true rfl⟩) ⟨lw_PX.blind, fun U hU hW => ⟨rfl, by rw [hU], by rw [hU]; exact C.P.sub [0] rfl, va_K.moved hW.alike (C.K.sub (tys' := []) [] rfl), C.E.go hW hU C.S (fun q h => Nat.le_trans C.S.1 h)⟩⟩ rfl rfl hl.1 rfl (lv_room (Nat.le_of_ble_eq_true rfl)) lwd_398 ⟨by show cells + 1 ≤ 600002; omega, by show slots + 6 ≤ 7302232; omega⟩) C.S (fun q h1 h => absurd h (Nat.not_le.mpr h1)) (fun q h => Nat.le_trans C.S.1 h) (fun r_398 u t H1 locs1 ht hvm hw _ hz1 hk1 hS => ?_)
  obtain rfl : r_398 = 1 := hw
  have C := C.kept hk1 hS
  refine lv_istore (lv' := [(5, .int 1), (4, .int 0), (3, .ref o), (2, .ref m0), (1, .ref x0), (0, .ref b)]) hx hb lwd_401 hl (by decide) rfl (fun ls hl => ?_)
  refine lv_aload_n hx hb lwd_403 rfl (lv_at hl 3 rfl) ?_
  refine lv_aload_n hx hb lwd_404 rfl (lv_at hl 5 rfl) ?_
  refine lv_iload hx hb lwd_405 (lv_at hl 1 rfl) ?_
  refine lv_iconst (v := 1) hx hb lwd_407 (by decide) ?_
  refine lv_iadd hx hb lwd_408 ?_
  refine va_sld hx hb hX hbl hbA hS (i := (0 + 1)) (by unfold vp_in; decide) lwd_409 ?_
  refine lv_topi (fun v_2 ev_2 => ?_)
  have hPc := C.P.sub (ws' := [(m0, .inr (0, fm))]) [2] rfl
  have hDc := C.A.sub (ws' := [(m0, .inr (0, fm))]) [2] (by decide) rfl
  have hKc := C.K.sub (tys' := []) [] rfl
  have hFc := va_free (wc := [(m0, .inr (0, fm))]) hDc hS (fun _ h => h) [0] rfl
  refine va_calli (va_runV (As := [.int v_2]) (rest := []) (C := "TableTongueModel") (Ts := lw_tbl) ⟨hx, hb, hml, hown, hts⟩ (m_X12_run l D m0 H1.size fm C.lm 0 C.m0' C.m2 C.m3 C.m4 v_2 ) ⟨callB_of 1 hts (lw_GoodT (List.mem_of_getElem? (i := 4025) rfl) (by decide +kernel)) rfl rfl rfl (hts _ (List.mem_of_getElem? (i := 423) (by decide +kernel))) (hts _ (List.mem_of_getElem? (i := 4022) (by decide +kernel))) ⟨by decide, by decide, by decide +kernel⟩ ⟨Nat.le_of_ble_eq_true rfl, Nat.le_of_ble_eq_true rfl⟩, hts _ (List.mem_of_getElem? (i := 4023) (by decide +kernel)), hts _ (List.mem_of_getElem? (i := 4024) (by decide +kernel))⟩ ⟨lw_PM.blind, va_recv hKc hPc (ci := 0) (q0 := 0) rfl rfl, fun U hU hW => ⟨rfl, by rw [hU], by rw [hU]; exact hPc, va_K.moved hW.alike hKc, hDc.weaken (fun _ _ _ _ => trivial)⟩⟩ rfl rfl hl.1 rfl (lv_room (Nat.le_of_ble_eq_true rfl)) lwd_410 ⟨by show cells + 1 + 0 ≤ 600002; omega, by show slots + 6 + 0 ≤ 7302232; omega⟩) hS (fun q _ h => hFc q h) hFc (fun r_410 u t H2 locs2 ht hvm hw hB hz1 hk1 hS => ?_)
  obtain ⟨rfl, hu, hu0⟩ := hw
  obtain ⟨hP1, hK1, hD1⟩ := hB
  rw [ht] at hP1
  have hD1 := hD1.weaken (B := fun _ => True) (fun _ _ _ _ => trivial)
  refine lv_istore (lv' := [(6, .int 0), (5, .int 1), (4, .int 0), (3, .ref o), (2, .ref m0), (1, .ref x0), (0, .ref b)]) hx hb lwd_413 hl (by decide) rfl (fun ls hl => ?_)
  refine lv_aload_n hx hb lwd_415 rfl (lv_at hl 4 rfl) ?_
  refine va_calli (va_runV (As := []) (rest := []) (C := "TableTongueModel") (Ts := lw_tbl) ⟨hx, hb, hml, hown, hts⟩ (m_X12_thrown l D m0 H2.size u 1 hu0) ⟨callB_of 0 hts (lw_GoodT (List.mem_of_getElem? (i := 3553) rfl) (by decide +kernel)) rfl rfl rfl (hts _ (List.mem_of_getElem? (i := 423) (by decide +kernel))) (hts _ (List.mem_of_getElem? (i := 3550) (by decide +kernel))) ⟨by decide, by decide, by decide +kernel⟩ ⟨Nat.le_of_ble_eq_true rfl, Nat.le_of_ble_eq_true rfl⟩, hts _ (List.mem_of_getElem? (i := 3551) (by decide +kernel)), hts _ (List.mem_of_getElem? (i := 3552) (by decide +kernel))⟩ ⟨lw_PM.blind, va_recv hKc hP1 (ci := 0) (q0 := 0) rfl rfl, fun U hU hW => ⟨rfl, by rw [hU], by rw [hU]; exact hP1, va_K.moved hW.alike hKc, hD1⟩⟩ rfl rfl hl.1 rfl (lv_room (Nat.le_of_ble_eq_true rfl)) lwd_416 ⟨by show cells + 1 + 0 + 0 ≤ 600002; omega, by show slots + 6 + 0 + 0 ≤ 7302232; omega⟩) hS (fun q h1 h => absurd h (Nat.not_le.mpr h1)) (fun q h => Nat.le_trans hS.1 h) (fun r_416 u2 t H3 locs3 ht hvm hw _ hz1 hk3 hS => ?_)
  obtain rfl : r_416 = 1 := hw
  refine lv_iload hx hb lwd_419 (lv_at hl 1 rfl) ?_
  refine lv_icmp_eq (tgt := 426) hx hb lwd_421 (by decide) (fun _ => ?_) (fun z => absurd z (by decide))
  refine lv_iload hx hb lwd_426 (lv_at hl 1 rfl) ?_
  refine lv_if_ne (tgt := 443) hx hb lwd_428 (by decide) (fun _ => ?_) (fun z => absurd z (by decide))
  refine lv_goto (tgt := 880) hx hb lwd_443 (by decide) ?_
  exact lw_end C9 hS (by omega) (by omega) (lv_sub hl [2, 6] rfl)
set_option maxHeartbeats 4000000 in
set_option maxRecDepth 100000 in
theorem lw_c9 {p : Program} {l : Launch} {e : Env} {s : State} {m : MethodId} {below : List Frame} {meth : Method} {c : Code} {b : Nat} {xs : Nat → Int32} {H : Heap} {locs : List Loc} {cells slots : Nat} {ls : Array Slot} {D : va_G} {x0 x1 m0 m1 o : Nat} {cX cM cO : ClassId} {f g : Nat → Int32} {h : Nat → Int64} {fx fm : List Value} (hst : l.stackTraces = false) (C0 : lw_At p s m meth c b 4 xs) (C : lw_C5 D s H locs x0 x1 m0 m1 o cX cM cO f g h fx fm) (hc : cells ≤ 1000) (hs : slots ≤ 2000000) (hl : lv_has ls 8 [(4, .int 0), (3, .ref o), (2, .ref m0), (1, .ref x0), (0, .ref b)])  : W p l e room_1 s m #[Value.ref b] below meth c H locs cells slots (lw_Z below #[Value.ref b] s) (F0 m 473 ls []) := by
  have C9 := C0
  obtain ⟨hx, hb, hr, hml, hown, hts, hX, hbl, hlocks, hgv⟩ := C0
  have hbA : ¬ (fun q : Nat => s.heap.size ≤ q) b := Nat.not_le.mpr hbl
  have hS := C.S
  refine lv_aload_n hx hb lwd_473 rfl (lv_at hl 3 rfl) ?_
  refine lv_aload_n hx hb lwd_474 rfl (lv_at hl 4 rfl) ?_
  refine lv_iload hx hb lwd_475 (lv_at hl 0 rfl) ?_
  refine lv_iconst (v := 1) hx hb lwd_477 (by decide) ?_
  refine lv_iadd hx hb lwd_478 ?_
  refine va_sld hx hb hX hbl hbA hS (i := (0 + 1)) (by unfold vp_in; decide) lwd_479 ?_
  refine lv_topi (fun v_1 ev_1 => ?_)
  refine lv_aload_n hx hb lwd_480 rfl (lv_at hl 4 rfl) ?_
  refine lv_iload hx hb lwd_481 (lv_at hl 0 rfl) ?_
  refine lv_iconst (v := 2) hx hb lwd_483 (by decide) ?_
  refine lv_iadd hx hb lwd_484 ?_
  refine va_sld hx hb hX hbl hbA hS (i := (0 + 2)) (by unfold vp_in; decide) lwd_485 ?_
  refine lv_topi (fun v_2 ev_2 => ?_)
  refine lv_aload_n hx hb lwd_486 rfl (lv_at hl 1 rfl) ?_
  refine va_calli (vx_runSW (Ts := lw_tbl) (own := "TableTongueLaw") (As := [.ref x0, .int v_1, .int v_2, .ref o]) (rest := []) ⟨hx, hb, hml, hown, hts⟩ (w_L_result_bad l hst D x0 H.size fx C.x8 C.x9 C.x10 C.x11 v_1 v_2 o ) (lw_csw 4 hts (List.mem_of_getElem? (i := 2903) rfl) (by decide +kernel) (List.mem_of_getElem? (i := 2901) (by decide +kernel)) (List.mem_of_getElem? (i := 2902) (by decide +kernel)) (List.mem_of_getElem? (i := 393) (by decide +kernel)) rfl rfl ⟨by decide, by decide, by decide +kernel⟩ ⟨Nat.le_of_ble_eq_true rfl, Nat.le_of_ble_eq_true rfl⟩) ⟨lw_PX.blind, fun U hU hW => ⟨rfl, by rw [hU], by rw [hU]; exact C.P.sub [0] rfl, va_K.moved hW.alike (C.K.sub (tys' := []) [] rfl), C.E.go hW hU C.S (fun q h => Nat.le_trans C.S.1 h)⟩⟩ rfl rfl hl.1 rfl (lv_room (Nat.le_of_ble_eq_true rfl)) lwd_487 ⟨by show cells + 1 ≤ 600002; omega, by show slots + 6 ≤ 7302232; omega⟩) C.S (fun q h1 h => absurd h (Nat.not_le.mpr h1)) (fun q h => Nat.le_trans C.S.1 h) (fun r_487 u t H1 locs1 ht hvm hw _ hz1 hk1 hS => ?_)
  obtain rfl : r_487 = 1 := hw
  have C := C.kept hk1 hS
  refine lv_istore (lv' := [(5, .int 1), (4, .int 0), (3, .ref o), (2, .ref m0), (1, .ref x0), (0, .ref b)]) hx hb lwd_490 hl (by decide) rfl (fun ls hl => ?_)
  refine lv_aload_n hx hb lwd_492 rfl (lv_at hl 3 rfl) ?_
  refine lv_aload_n hx hb lwd_493 rfl (lv_at hl 5 rfl) ?_
  refine lv_iload hx hb lwd_494 (lv_at hl 1 rfl) ?_
  refine lv_iconst (v := 1) hx hb lwd_496 (by decide) ?_
  refine lv_iadd hx hb lwd_497 ?_
  refine va_sld hx hb hX hbl hbA hS (i := (0 + 1)) (by unfold vp_in; decide) lwd_498 ?_
  refine lv_topi (fun v_3 ev_3 => ?_)
  refine lv_aload_n hx hb lwd_499 rfl (lv_at hl 5 rfl) ?_
  refine lv_iload hx hb lwd_500 (lv_at hl 1 rfl) ?_
  refine lv_iconst (v := 2) hx hb lwd_502 (by decide) ?_
  refine lv_iadd hx hb lwd_503 ?_
  refine va_sld hx hb hX hbl hbA hS (i := (0 + 2)) (by unfold vp_in; decide) lwd_504 ?_
  refine lv_topi (fun v_4 ev_4 => ?_)
  have hPc := C.P.sub (ws' := [(m0, .inr (0, fm))]) [2] rfl
  have hDc := C.A.sub (ws' := [(m0, .inr (0, fm))]) [2] (by decide) rfl
  have hKc := C.K.sub (tys' := []) [] rfl
  have hFc := va_free (wc := [(m0, .inr (0, fm))]) hDc hS (fun _ h => h) [0] rfl
  refine va_calll (va_runV (As := [.int v_3, .int v_4]) (rest := []) (C := "TableTongueModel") (Ts := lw_tbl) ⟨hx, hb, hml, hown, hts⟩ (m_X12_result l D m0 H1.size fm C.lm 0 C.m0' C.m2 C.m3 C.m4 v_3 v_4 ) ⟨callB_of 2 hts (lw_GoodT (List.mem_of_getElem? (i := 4550) rfl) (by decide +kernel)) rfl rfl rfl (hts _ (List.mem_of_getElem? (i := 423) (by decide +kernel))) (hts _ (List.mem_of_getElem? (i := 4547) (by decide +kernel))) ⟨by decide, by decide, by decide +kernel⟩ ⟨Nat.le_of_ble_eq_true rfl, Nat.le_of_ble_eq_true rfl⟩, hts _ (List.mem_of_getElem? (i := 4548) (by decide +kernel)), hts _ (List.mem_of_getElem? (i := 4549) (by decide +kernel))⟩ ⟨lw_PM.blind, va_recv hKc hPc (ci := 0) (q0 := 0) rfl rfl, fun U hU hW => ⟨rfl, by rw [hU], by rw [hU]; exact hPc, va_K.moved hW.alike hKc, hDc.weaken (fun _ _ _ _ => trivial)⟩⟩ rfl rfl hl.1 rfl (lv_room (Nat.le_of_ble_eq_true rfl)) lwd_505 ⟨by show cells + 1 + 0 ≤ 600002; omega, by show slots + 6 + 0 ≤ 7302232; omega⟩) hS (fun q _ h => hFc q h) hFc (fun r_505 u t H2 locs2 ht hvm hw hB hz1 hk1 hS => ?_)
  obtain ⟨rfl, hu, hu0⟩ := hw
  obtain ⟨hP1, hK1, hD1⟩ := hB
  rw [ht] at hP1
  have hD1 := hD1.weaken (B := fun _ => True) (fun _ _ _ _ => trivial)
  refine lv_lstore (lv' := [(6, .long 0), (5, .int 1), (4, .int 0), (3, .ref o), (2, .ref m0), (1, .ref x0), (0, .ref b)]) hx hb lwd_508 hl (by decide) rfl (fun ls hl => ?_)
  refine lv_aload_n hx hb lwd_510 rfl (lv_at hl 4 rfl) ?_
  refine va_calli (va_runV (As := []) (rest := []) (C := "TableTongueModel") (Ts := lw_tbl) ⟨hx, hb, hml, hown, hts⟩ (m_X12_thrown l D m0 H2.size u 1 hu0) ⟨callB_of 0 hts (lw_GoodT (List.mem_of_getElem? (i := 3553) rfl) (by decide +kernel)) rfl rfl rfl (hts _ (List.mem_of_getElem? (i := 423) (by decide +kernel))) (hts _ (List.mem_of_getElem? (i := 3550) (by decide +kernel))) ⟨by decide, by decide, by decide +kernel⟩ ⟨Nat.le_of_ble_eq_true rfl, Nat.le_of_ble_eq_true rfl⟩, hts _ (List.mem_of_getElem? (i := 3551) (by decide +kernel)), hts _ (List.mem_of_getElem? (i := 3552) (by decide +kernel))⟩ ⟨lw_PM.blind, va_recv hKc hP1 (ci := 0) (q0 := 0) rfl rfl, fun U hU hW => ⟨rfl, by rw [hU], by rw [hU]; exact hP1, va_K.moved hW.alike hKc, hD1⟩⟩ rfl rfl hl.1 rfl (lv_room (Nat.le_of_ble_eq_true rfl)) lwd_511 ⟨by show cells + 1 + 0 + 0 ≤ 600002; omega, by show slots + 6 + 0 + 0 ≤ 7302232; omega⟩) hS (fun q h1 h => absurd h (Nat.not_le.mpr h1)) (fun q h => Nat.le_trans hS.1 h) (fun r_511 u2 t H3 locs3 ht hvm hw _ hz1 hk3 hS => ?_)
  obtain rfl : r_511 = 1 := hw
  refine lv_iload hx hb lwd_514 (lv_at hl 1 rfl) ?_
  refine lv_icmp_eq (tgt := 521) hx hb lwd_516 (by decide) (fun _ => ?_) (fun z => absurd z (by decide))
  refine lv_iload hx hb lwd_521 (lv_at hl 1 rfl) ?_
  refine lv_if_ne (tgt := 537) hx hb lwd_523 (by decide) (fun _ => ?_) (fun z => absurd z (by decide))
  refine lv_goto (tgt := 880) hx hb lwd_537 (by decide) ?_
  exact lw_end C9 hS (by omega) (by omega) (lv_sub hl [2, 6] rfl)
set_option maxHeartbeats 4000000 in
set_option maxRecDepth 100000 in
theorem lw_c10 {p : Program} {l : Launch} {e : Env} {s : State} {m : MethodId} {below : List Frame} {meth : Method} {c : Code} {b : Nat} {xs : Nat → Int32} {H : Heap} {locs : List Loc} {cells slots : Nat} {ls : Array Slot} {D : va_G} {x0 x1 m0 m1 o : Nat} {cX cM cO : ClassId} {f g : Nat → Int32} {h : Nat → Int64} {fx fm : List Value} (hst : l.stackTraces = false) (C0 : lw_At p s m meth c b 4 xs) (C : lw_C5 D s H locs x0 x1 m0 m1 o cX cM cO f g h fx fm) (hc : cells ≤ 1000) (hs : slots ≤ 2000000) (hl : lv_has ls 8 [(4, .int 0), (3, .ref o), (2, .ref m0), (1, .ref x0), (0, .ref b)])  : W p l e room_1 s m #[Value.ref b] below meth c H locs cells slots (lw_Z below #[Value.ref b] s) (F0 m 540 ls []) := by
  have C9 := C0
  obtain ⟨hx, hb, hr, hml, hown, hts, hX, hbl, hlocks, hgv⟩ := C0
  have hbA : ¬ (fun q : Nat => s.heap.size ≤ q) b := Nat.not_le.mpr hbl
  have hS := C.S
  refine lv_aload_n hx hb lwd_540 rfl (lv_at hl 3 rfl) ?_
  refine lv_aload_n hx hb lwd_541 rfl (lv_at hl 4 rfl) ?_
  refine lv_iload hx hb lwd_542 (lv_at hl 0 rfl) ?_
  refine lv_iconst (v := 1) hx hb lwd_544 (by decide) ?_
  refine lv_iadd hx hb lwd_545 ?_
  refine va_sld hx hb hX hbl hbA hS (i := (0 + 1)) (by unfold vp_in; decide) lwd_546 ?_
  refine lv_topi (fun v_1 ev_1 => ?_)
  refine lv_aload_n hx hb lwd_547 rfl (lv_at hl 4 rfl) ?_
  refine lv_iload hx hb lwd_548 (lv_at hl 0 rfl) ?_
  refine lv_iconst (v := 2) hx hb lwd_550 (by decide) ?_
  refine lv_iadd hx hb lwd_551 ?_
  refine va_sld hx hb hX hbl hbA hS (i := (0 + 2)) (by unfold vp_in; decide) lwd_552 ?_
  refine lv_topi (fun v_2 ev_2 => ?_)
  refine lv_aload_n hx hb lwd_553 rfl (lv_at hl 1 rfl) ?_
  refine va_calli (vx_runSW (Ts := lw_tbl) (own := "TableTongueLaw") (As := [.ref x0, .int v_1, .int v_2, .ref o]) (rest := []) ⟨hx, hb, hml, hown, hts⟩ (w_L_resultByte_bad l hst D x0 H.size fx C.x8 C.x9 C.x10 C.x11 v_1 v_2 o ) (lw_csw 4 hts (List.mem_of_getElem? (i := 2917) rfl) (by decide +kernel) (List.mem_of_getElem? (i := 2915) (by decide +kernel)) (List.mem_of_getElem? (i := 2916) (by decide +kernel)) (List.mem_of_getElem? (i := 393) (by decide +kernel)) rfl rfl ⟨by decide, by decide, by decide +kernel⟩ ⟨Nat.le_of_ble_eq_true rfl, Nat.le_of_ble_eq_true rfl⟩) ⟨lw_PX.blind, fun U hU hW => ⟨rfl, by rw [hU], by rw [hU]; exact C.P.sub [0] rfl, va_K.moved hW.alike (C.K.sub (tys' := []) [] rfl), C.E.go hW hU C.S (fun q h => Nat.le_trans C.S.1 h)⟩⟩ rfl rfl hl.1 rfl (lv_room (Nat.le_of_ble_eq_true rfl)) lwd_554 ⟨by show cells + 1 ≤ 600002; omega, by show slots + 6 ≤ 7302232; omega⟩) C.S (fun q h1 h => absurd h (Nat.not_le.mpr h1)) (fun q h => Nat.le_trans C.S.1 h) (fun r_554 u t H1 locs1 ht hvm hw _ hz1 hk1 hS => ?_)
  obtain rfl : r_554 = 1 := hw
  have C := C.kept hk1 hS
  refine lv_istore (lv' := [(5, .int 1), (4, .int 0), (3, .ref o), (2, .ref m0), (1, .ref x0), (0, .ref b)]) hx hb lwd_557 hl (by decide) rfl (fun ls hl => ?_)
  refine lv_aload_n hx hb lwd_559 rfl (lv_at hl 3 rfl) ?_
  refine lv_aload_n hx hb lwd_560 rfl (lv_at hl 5 rfl) ?_
  refine lv_iload hx hb lwd_561 (lv_at hl 1 rfl) ?_
  refine lv_iconst (v := 1) hx hb lwd_563 (by decide) ?_
  refine lv_iadd hx hb lwd_564 ?_
  refine va_sld hx hb hX hbl hbA hS (i := (0 + 1)) (by unfold vp_in; decide) lwd_565 ?_
  refine lv_topi (fun v_3 ev_3 => ?_)
  refine lv_aload_n hx hb lwd_566 rfl (lv_at hl 5 rfl) ?_
  refine lv_iload hx hb lwd_567 (lv_at hl 1 rfl) ?_
  refine lv_iconst (v := 2) hx hb lwd_569 (by decide) ?_
  refine lv_iadd hx hb lwd_570 ?_
  refine va_sld hx hb hX hbl hbA hS (i := (0 + 2)) (by unfold vp_in; decide) lwd_571 ?_
  refine lv_topi (fun v_4 ev_4 => ?_)
  have hPc := C.P.sub (ws' := [(m0, .inr (0, fm))]) [2] rfl
  have hDc := C.A.sub (ws' := [(m0, .inr (0, fm))]) [2] (by decide) rfl
  have hKc := C.K.sub (tys' := []) [] rfl
  have hFc := va_free (wc := [(m0, .inr (0, fm))]) hDc hS (fun _ h => h) [0] rfl
  refine va_calli (va_runV (As := [.int v_3, .int v_4]) (rest := []) (C := "TableTongueModel") (Ts := lw_tbl) ⟨hx, hb, hml, hown, hts⟩ (m_X12_resultByte l D m0 H1.size fm C.lm 0 C.m0' C.m2 C.m3 C.m4 v_3 v_4 ) ⟨callB_of 2 hts (lw_GoodT (List.mem_of_getElem? (i := 4561) rfl) (by decide +kernel)) rfl rfl rfl (hts _ (List.mem_of_getElem? (i := 423) (by decide +kernel))) (hts _ (List.mem_of_getElem? (i := 4558) (by decide +kernel))) ⟨by decide, by decide, by decide +kernel⟩ ⟨Nat.le_of_ble_eq_true rfl, Nat.le_of_ble_eq_true rfl⟩, hts _ (List.mem_of_getElem? (i := 4559) (by decide +kernel)), hts _ (List.mem_of_getElem? (i := 4560) (by decide +kernel))⟩ ⟨lw_PM.blind, va_recv hKc hPc (ci := 0) (q0 := 0) rfl rfl, fun U hU hW => ⟨rfl, by rw [hU], by rw [hU]; exact hPc, va_K.moved hW.alike hKc, hDc.weaken (fun _ _ _ _ => trivial)⟩⟩ rfl rfl hl.1 rfl (lv_room (Nat.le_of_ble_eq_true rfl)) lwd_572 ⟨by show cells + 1 + 0 ≤ 600002; omega, by show slots + 6 + 0 ≤ 7302232; omega⟩) hS (fun q _ h => hFc q h) hFc (fun r_572 u t H2 locs2 ht hvm hw hB hz1 hk1 hS => ?_)
  obtain ⟨rfl, hu, hu0⟩ := hw
  obtain ⟨hP1, hK1, hD1⟩ := hB
  rw [ht] at hP1
  have hD1 := hD1.weaken (B := fun _ => True) (fun _ _ _ _ => trivial)
  refine lv_istore (lv' := [(6, .int 0), (5, .int 1), (4, .int 0), (3, .ref o), (2, .ref m0), (1, .ref x0), (0, .ref b)]) hx hb lwd_575 hl (by decide) rfl (fun ls hl => ?_)
  refine lv_aload_n hx hb lwd_577 rfl (lv_at hl 4 rfl) ?_
  refine va_calli (va_runV (As := []) (rest := []) (C := "TableTongueModel") (Ts := lw_tbl) ⟨hx, hb, hml, hown, hts⟩ (m_X12_thrown l D m0 H2.size u 1 hu0) ⟨callB_of 0 hts (lw_GoodT (List.mem_of_getElem? (i := 3553) rfl) (by decide +kernel)) rfl rfl rfl (hts _ (List.mem_of_getElem? (i := 423) (by decide +kernel))) (hts _ (List.mem_of_getElem? (i := 3550) (by decide +kernel))) ⟨by decide, by decide, by decide +kernel⟩ ⟨Nat.le_of_ble_eq_true rfl, Nat.le_of_ble_eq_true rfl⟩, hts _ (List.mem_of_getElem? (i := 3551) (by decide +kernel)), hts _ (List.mem_of_getElem? (i := 3552) (by decide +kernel))⟩ ⟨lw_PM.blind, va_recv hKc hP1 (ci := 0) (q0 := 0) rfl rfl, fun U hU hW => ⟨rfl, by rw [hU], by rw [hU]; exact hP1, va_K.moved hW.alike hKc, hD1⟩⟩ rfl rfl hl.1 rfl (lv_room (Nat.le_of_ble_eq_true rfl)) lwd_578 ⟨by show cells + 1 + 0 + 0 ≤ 600002; omega, by show slots + 6 + 0 + 0 ≤ 7302232; omega⟩) hS (fun q h1 h => absurd h (Nat.not_le.mpr h1)) (fun q h => Nat.le_trans hS.1 h) (fun r_578 u2 t H3 locs3 ht hvm hw _ hz1 hk3 hS => ?_)
  obtain rfl : r_578 = 1 := hw
  refine lv_iload hx hb lwd_581 (lv_at hl 1 rfl) ?_
  refine lv_icmp_eq (tgt := 588) hx hb lwd_583 (by decide) (fun _ => ?_) (fun z => absurd z (by decide))
  refine lv_iload hx hb lwd_588 (lv_at hl 1 rfl) ?_
  refine lv_if_ne (tgt := 605) hx hb lwd_590 (by decide) (fun _ => ?_) (fun z => absurd z (by decide))
  refine lv_goto (tgt := 880) hx hb lwd_605 (by decide) ?_
  exact lw_end C9 hS (by omega) (by omega) (lv_sub hl [2, 6] rfl)
set_option maxHeartbeats 4000000 in
set_option maxRecDepth 100000 in
theorem lw_c12 {p : Program} {l : Launch} {e : Env} {s : State} {m : MethodId} {below : List Frame} {meth : Method} {c : Code} {b : Nat} {xs : Nat → Int32} {H : Heap} {locs : List Loc} {cells slots : Nat} {ls : Array Slot} {D : va_G} {x0 x1 m0 m1 o : Nat} {cX cM cO : ClassId} {f g : Nat → Int32} {h : Nat → Int64} {fx fm : List Value} (hst : l.stackTraces = false) (C0 : lw_At p s m meth c b 4 xs) (C : lw_C5 D s H locs x0 x1 m0 m1 o cX cM cO f g h fx fm) (hc : cells ≤ 1000) (hs : slots ≤ 2000000) (hl : lv_has ls 8 [(4, .int 0), (3, .ref o), (2, .ref m0), (1, .ref x0), (0, .ref b)])  : W p l e room_1 s m #[Value.ref b] below meth c H locs cells slots (lw_Z below #[Value.ref b] s) (F0 m 621 ls []) := by
  have C9 := C0
  obtain ⟨hx, hb, hr, hml, hown, hts, hX, hbl, hlocks, hgv⟩ := C0
  have hbA : ¬ (fun q : Nat => s.heap.size ≤ q) b := Nat.not_le.mpr hbl
  have hS := C.S
  refine lv_aload_n hx hb lwd_621 rfl (lv_at hl 3 rfl) ?_
  refine lv_aload_n hx hb lwd_622 rfl (lv_at hl 4 rfl) ?_
  refine lv_iload hx hb lwd_623 (lv_at hl 0 rfl) ?_
  refine lv_iconst (v := 1) hx hb lwd_625 (by decide) ?_
  refine lv_iadd hx hb lwd_626 ?_
  refine va_sld hx hb hX hbl hbA hS (i := (0 + 1)) (by unfold vp_in; decide) lwd_627 ?_
  refine lv_topi (fun v_1 ev_1 => ?_)
  refine lv_aload_n hx hb lwd_628 rfl (lv_at hl 1 rfl) ?_
  refine va_calli (vx_runSW (Ts := lw_tbl) (own := "TableTongueLaw") (As := [.ref x0, .int v_1, .ref o]) (rest := []) ⟨hx, hb, hml, hown, hts⟩ (w_L_output_bad l hst D x0 H.size fx C.x8 C.x9 C.x10 C.x11 v_1 o ) (lw_csw 3 hts (List.mem_of_getElem? (i := 2925) rfl) (by decide +kernel) (List.mem_of_getElem? (i := 2923) (by decide +kernel)) (List.mem_of_getElem? (i := 2924) (by decide +kernel)) (List.mem_of_getElem? (i := 393) (by decide +kernel)) rfl rfl ⟨by decide, by decide, by decide +kernel⟩ ⟨Nat.le_of_ble_eq_true rfl, Nat.le_of_ble_eq_true rfl⟩) ⟨lw_PX.blind, fun U hU hW => ⟨rfl, by rw [hU], by rw [hU]; exact C.P.sub [0] rfl, va_K.moved hW.alike (C.K.sub (tys' := []) [] rfl), C.E.go hW hU C.S (fun q h => Nat.le_trans C.S.1 h)⟩⟩ rfl rfl hl.1 rfl (lv_room (Nat.le_of_ble_eq_true rfl)) lwd_629 ⟨by show cells + 1 ≤ 600002; omega, by show slots + 6 ≤ 7302232; omega⟩) C.S (fun q h1 h => absurd h (Nat.not_le.mpr h1)) (fun q h => Nat.le_trans C.S.1 h) (fun r_629 u t H1 locs1 ht hvm hw _ hz1 hk1 hS => ?_)
  obtain rfl : r_629 = 1 := hw
  have C := C.kept hk1 hS
  refine lv_istore (lv' := [(5, .int 1), (4, .int 0), (3, .ref o), (2, .ref m0), (1, .ref x0), (0, .ref b)]) hx hb lwd_632 hl (by decide) rfl (fun ls hl => ?_)
  refine lv_aload_n hx hb lwd_634 rfl (lv_at hl 3 rfl) ?_
  refine lv_aload_n hx hb lwd_635 rfl (lv_at hl 5 rfl) ?_
  refine lv_iload hx hb lwd_636 (lv_at hl 1 rfl) ?_
  refine lv_iconst (v := 1) hx hb lwd_638 (by decide) ?_
  refine lv_iadd hx hb lwd_639 ?_
  refine va_sld hx hb hX hbl hbA hS (i := (0 + 1)) (by unfold vp_in; decide) lwd_640 ?_
  refine lv_topi (fun v_2 ev_2 => ?_)
  have hPc := C.P.sub (ws' := [(m0, .inr (0, fm))]) [2] rfl
  have hDc := C.A.sub (ws' := [(m0, .inr (0, fm))]) [2] (by decide) rfl
  have hKc := C.K.sub (tys' := []) [] rfl
  have hFc := va_free (wc := [(m0, .inr (0, fm))]) hDc hS (fun _ h => h) [0] rfl
  refine va_calli (va_runV (As := [.int v_2]) (rest := []) (C := "TableTongueModel") (Ts := lw_tbl) ⟨hx, hb, hml, hown, hts⟩ (m_X12_output l D m0 H1.size fm C.lm 0 C.m0' C.m2 C.m3 C.m4 v_2 ) ⟨callB_of 1 hts (lw_GoodT (List.mem_of_getElem? (i := 4569) rfl) (by decide +kernel)) rfl rfl rfl (hts _ (List.mem_of_getElem? (i := 423) (by decide +kernel))) (hts _ (List.mem_of_getElem? (i := 4566) (by decide +kernel))) ⟨by decide, by decide, by decide +kernel⟩ ⟨Nat.le_of_ble_eq_true rfl, Nat.le_of_ble_eq_true rfl⟩, hts _ (List.mem_of_getElem? (i := 4567) (by decide +kernel)), hts _ (List.mem_of_getElem? (i := 4568) (by decide +kernel))⟩ ⟨lw_PM.blind, va_recv hKc hPc (ci := 0) (q0 := 0) rfl rfl, fun U hU hW => ⟨rfl, by rw [hU], by rw [hU]; exact hPc, va_K.moved hW.alike hKc, hDc.weaken (fun _ _ _ _ => trivial)⟩⟩ rfl rfl hl.1 rfl (lv_room (Nat.le_of_ble_eq_true rfl)) lwd_641 ⟨by show cells + 1 + 0 ≤ 600002; omega, by show slots + 6 + 0 ≤ 7302232; omega⟩) hS (fun q _ h => hFc q h) hFc (fun r_641 u t H2 locs2 ht hvm hw hB hz1 hk1 hS => ?_)
  obtain ⟨rfl, hu, hu0⟩ := hw
  obtain ⟨hP1, hK1, hD1⟩ := hB
  rw [ht] at hP1
  have hD1 := hD1.weaken (B := fun _ => True) (fun _ _ _ _ => trivial)
  refine lv_istore (lv' := [(6, .int 0), (5, .int 1), (4, .int 0), (3, .ref o), (2, .ref m0), (1, .ref x0), (0, .ref b)]) hx hb lwd_644 hl (by decide) rfl (fun ls hl => ?_)
  refine lv_aload_n hx hb lwd_646 rfl (lv_at hl 4 rfl) ?_
  refine va_calli (va_runV (As := []) (rest := []) (C := "TableTongueModel") (Ts := lw_tbl) ⟨hx, hb, hml, hown, hts⟩ (m_X12_thrown l D m0 H2.size u 1 hu0) ⟨callB_of 0 hts (lw_GoodT (List.mem_of_getElem? (i := 3553) rfl) (by decide +kernel)) rfl rfl rfl (hts _ (List.mem_of_getElem? (i := 423) (by decide +kernel))) (hts _ (List.mem_of_getElem? (i := 3550) (by decide +kernel))) ⟨by decide, by decide, by decide +kernel⟩ ⟨Nat.le_of_ble_eq_true rfl, Nat.le_of_ble_eq_true rfl⟩, hts _ (List.mem_of_getElem? (i := 3551) (by decide +kernel)), hts _ (List.mem_of_getElem? (i := 3552) (by decide +kernel))⟩ ⟨lw_PM.blind, va_recv hKc hP1 (ci := 0) (q0 := 0) rfl rfl, fun U hU hW => ⟨rfl, by rw [hU], by rw [hU]; exact hP1, va_K.moved hW.alike hKc, hD1⟩⟩ rfl rfl hl.1 rfl (lv_room (Nat.le_of_ble_eq_true rfl)) lwd_647 ⟨by show cells + 1 + 0 + 0 ≤ 600002; omega, by show slots + 6 + 0 + 0 ≤ 7302232; omega⟩) hS (fun q h1 h => absurd h (Nat.not_le.mpr h1)) (fun q h => Nat.le_trans hS.1 h) (fun r_647 u2 t H3 locs3 ht hvm hw _ hz1 hk3 hS => ?_)
  obtain rfl : r_647 = 1 := hw
  refine lv_iload hx hb lwd_650 (lv_at hl 1 rfl) ?_
  refine lv_icmp_eq (tgt := 657) hx hb lwd_652 (by decide) (fun _ => ?_) (fun z => absurd z (by decide))
  refine lv_iload hx hb lwd_657 (lv_at hl 1 rfl) ?_
  refine lv_if_ne (tgt := 674) hx hb lwd_659 (by decide) (fun _ => ?_) (fun z => absurd z (by decide))
  refine lv_goto (tgt := 880) hx hb lwd_674 (by decide) ?_
  exact lw_end C9 hS (by omega) (by omega) (lv_sub hl [2, 6] rfl)
set_option maxHeartbeats 4000000 in
set_option maxRecDepth 100000 in
theorem lw_c13b {p : Program} {l : Launch} {e : Env} {s : State} {m : MethodId} {below : List Frame} {meth : Method} {c : Code} {b : Nat} {xs : Nat → Int32} {H : Heap} {locs : List Loc} {cells slots : Nat} {ls : Array Slot} {D : va_G} {x0 x1 m0 m1 o : Nat} {cX cM cO : ClassId} {f g : Nat → Int32} {h : Nat → Int64} {fx fm : List Value} (hst : l.stackTraces = false) (C0 : lw_At p s m meth c b 4 xs) (C : lw_C5 D s H locs x0 x1 m0 m1 o cX cM cO f g h fx fm) (hc : cells ≤ 1000) (hs : slots ≤ 2000000) (hl : lv_has ls 8 [(4, .int 0), (3, .ref o), (2, .ref m0), (1, .ref x0), (0, .ref b)]) (y1 : Int32) (e_y1 : xs (0 + 1 : Int32).toNatClampNeg = y1) (hbad : y1 < 0 ∨ ¬ y1 ≤ 5) : W p l e room_1 s m #[Value.ref b] below meth c H locs cells slots (lw_Z below #[Value.ref b] s) (F0 m 677 ls []) := by
  have C9 := C0
  obtain ⟨hx, hb, hr, hml, hown, hts, hX, hbl, hlocks, hgv⟩ := C0
  have hbA : ¬ (fun q : Nat => s.heap.size ≤ q) b := Nat.not_le.mpr hbl
  have hS := C.S
  refine lv_aload_n hx hb lwd_677 rfl (lv_at hl 3 rfl) ?_
  refine lv_aload_n hx hb lwd_678 rfl (lv_at hl 4 rfl) ?_
  refine lv_iload hx hb lwd_679 (lv_at hl 0 rfl) ?_
  refine lv_iconst (v := 1) hx hb lwd_681 (by decide) ?_
  refine lv_iadd hx hb lwd_682 ?_
  refine va_sld hx hb hX hbl hbA hS (i := (0 + 1)) (by unfold vp_in; decide) lwd_683 ?_
  refine lv_topi (fun v_1 ev_1 => ?_)
  obtain rfl : y1 = v_1 := (ev_1.trans e_y1).symm
  refine lv_aload_n hx hb lwd_684 rfl (lv_at hl 1 rfl) ?_
  refine va_calli (vx_runSW (Ts := lw_tbl) (own := "TableTongueLaw") (As := [.ref x0, .int y1, .ref o]) (rest := []) ⟨hx, hb, hml, hown, hts⟩ (w_L_count_bad l hst D x0 H.size fx C.x8 C.x9 C.x10 C.x11 y1 o hbad) (lw_csw 3 hts (List.mem_of_getElem? (i := 2933) rfl) (by decide +kernel) (List.mem_of_getElem? (i := 2931) (by decide +kernel)) (List.mem_of_getElem? (i := 2932) (by decide +kernel)) (List.mem_of_getElem? (i := 393) (by decide +kernel)) rfl rfl ⟨by decide, by decide, by decide +kernel⟩ ⟨Nat.le_of_ble_eq_true rfl, Nat.le_of_ble_eq_true rfl⟩) ⟨lw_PX.blind, fun U hU hW => ⟨rfl, by rw [hU], by rw [hU]; exact C.P.sub [0] rfl, va_K.moved hW.alike (C.K.sub (tys' := []) [] rfl), C.E.go hW hU C.S (fun q h => Nat.le_trans C.S.1 h)⟩⟩ rfl rfl hl.1 rfl (lv_room (Nat.le_of_ble_eq_true rfl)) lwd_685 ⟨by show cells + 1 ≤ 600002; omega, by show slots + 6 ≤ 7302232; omega⟩) C.S (fun q h1 h => absurd h (Nat.not_le.mpr h1)) (fun q h => Nat.le_trans C.S.1 h) (fun r_685 u t H1 locs1 ht hvm hw _ hz1 hk1 hS => ?_)
  obtain rfl : r_685 = 1 := hw
  have C := C.kept hk1 hS
  refine lv_istore (lv' := [(5, .int 1), (4, .int 0), (3, .ref o), (2, .ref m0), (1, .ref x0), (0, .ref b)]) hx hb lwd_688 hl (by decide) rfl (fun ls hl => ?_)
  refine lv_aload_n hx hb lwd_690 rfl (lv_at hl 3 rfl) ?_
  refine lv_aload_n hx hb lwd_691 rfl (lv_at hl 5 rfl) ?_
  refine lv_iload hx hb lwd_692 (lv_at hl 1 rfl) ?_
  refine lv_iconst (v := 1) hx hb lwd_694 (by decide) ?_
  refine lv_iadd hx hb lwd_695 ?_
  refine va_sld hx hb hX hbl hbA hS (i := (0 + 1)) (by unfold vp_in; decide) lwd_696 ?_
  refine lv_topi (fun v_2 ev_2 => ?_)
  obtain rfl : y1 = v_2 := (ev_2.trans e_y1).symm
  have hPc := C.P.sub (ws' := [(m0, .inr (0, fm))]) [2] rfl
  have hDc := C.A.sub (ws' := [(m0, .inr (0, fm))]) [2] (by decide) rfl
  have hKc := C.K.sub (tys' := []) [] rfl
  have hFc := va_free (wc := [(m0, .inr (0, fm))]) hDc hS (fun _ h => h) [0] rfl
  refine va_calli (va_runV (As := [.int y1]) (rest := []) (C := "TableTongueModel") (Ts := lw_tbl) ⟨hx, hb, hml, hown, hts⟩ (m_X12_count_bad l D m0 H1.size fm C.lm 0 C.m0' C.m2 C.m3 C.m4 y1 hbad) ⟨callB_of 1 hts (lw_GoodT (List.mem_of_getElem? (i := 4573) rfl) (by decide +kernel)) rfl rfl rfl (hts _ (List.mem_of_getElem? (i := 423) (by decide +kernel))) (hts _ (List.mem_of_getElem? (i := 4570) (by decide +kernel))) ⟨by decide, by decide, by decide +kernel⟩ ⟨Nat.le_of_ble_eq_true rfl, Nat.le_of_ble_eq_true rfl⟩, hts _ (List.mem_of_getElem? (i := 4571) (by decide +kernel)), hts _ (List.mem_of_getElem? (i := 4572) (by decide +kernel))⟩ ⟨lw_PM.blind, va_recv hKc hPc (ci := 0) (q0 := 0) rfl rfl, fun U hU hW => ⟨rfl, by rw [hU], by rw [hU]; exact hPc, va_K.moved hW.alike hKc, hDc.weaken (fun _ _ _ _ => trivial)⟩⟩ rfl rfl hl.1 rfl (lv_room (Nat.le_of_ble_eq_true rfl)) lwd_697 ⟨by show cells + 1 + 0 ≤ 600002; omega, by show slots + 6 + 0 ≤ 7302232; omega⟩) hS (fun q _ h => hFc q h) hFc (fun r_697 u t H2 locs2 ht hvm hw hB hz1 hk1 hS => ?_)
  obtain ⟨rfl, hu, hu0⟩ := hw
  obtain ⟨hP1, hK1, hD1⟩ := hB
  rw [ht] at hP1
  have hD1 := hD1.weaken (B := fun _ => True) (fun _ _ _ _ => trivial)
  refine lv_istore (lv' := [(6, .int 0), (5, .int 1), (4, .int 0), (3, .ref o), (2, .ref m0), (1, .ref x0), (0, .ref b)]) hx hb lwd_700 hl (by decide) rfl (fun ls hl => ?_)
  refine lv_aload_n hx hb lwd_702 rfl (lv_at hl 4 rfl) ?_
  refine va_calli (va_runV (As := []) (rest := []) (C := "TableTongueModel") (Ts := lw_tbl) ⟨hx, hb, hml, hown, hts⟩ (m_X12_thrown l D m0 H2.size u 1 hu0) ⟨callB_of 0 hts (lw_GoodT (List.mem_of_getElem? (i := 3553) rfl) (by decide +kernel)) rfl rfl rfl (hts _ (List.mem_of_getElem? (i := 423) (by decide +kernel))) (hts _ (List.mem_of_getElem? (i := 3550) (by decide +kernel))) ⟨by decide, by decide, by decide +kernel⟩ ⟨Nat.le_of_ble_eq_true rfl, Nat.le_of_ble_eq_true rfl⟩, hts _ (List.mem_of_getElem? (i := 3551) (by decide +kernel)), hts _ (List.mem_of_getElem? (i := 3552) (by decide +kernel))⟩ ⟨lw_PM.blind, va_recv hKc hP1 (ci := 0) (q0 := 0) rfl rfl, fun U hU hW => ⟨rfl, by rw [hU], by rw [hU]; exact hP1, va_K.moved hW.alike hKc, hD1⟩⟩ rfl rfl hl.1 rfl (lv_room (Nat.le_of_ble_eq_true rfl)) lwd_703 ⟨by show cells + 1 + 0 + 0 ≤ 600002; omega, by show slots + 6 + 0 + 0 ≤ 7302232; omega⟩) hS (fun q h1 h => absurd h (Nat.not_le.mpr h1)) (fun q h => Nat.le_trans hS.1 h) (fun r_703 u2 t H3 locs3 ht hvm hw _ hz1 hk3 hS => ?_)
  obtain rfl : r_703 = 1 := hw
  refine lv_iload hx hb lwd_706 (lv_at hl 1 rfl) ?_
  refine lv_icmp_eq (tgt := 713) hx hb lwd_708 (by decide) (fun _ => ?_) (fun z => absurd z (by decide))
  refine lv_iload hx hb lwd_713 (lv_at hl 1 rfl) ?_
  refine lv_if_ne (tgt := 730) hx hb lwd_715 (by decide) (fun _ => ?_) (fun z => absurd z (by decide))
  refine lv_goto (tgt := 880) hx hb lwd_730 (by decide) ?_
  exact lw_end C9 hS (by omega) (by omega) (lv_sub hl [2, 6] rfl)
set_option maxHeartbeats 4000000 in
set_option maxRecDepth 100000 in
theorem lw_c14 {p : Program} {l : Launch} {e : Env} {s : State} {m : MethodId} {below : List Frame} {meth : Method} {c : Code} {b : Nat} {xs : Nat → Int32} {H : Heap} {locs : List Loc} {cells slots : Nat} {ls : Array Slot} {D : va_G} {x0 x1 m0 m1 o : Nat} {cX cM cO : ClassId} {f g : Nat → Int32} {h : Nat → Int64} {fx fm : List Value} (hst : l.stackTraces = false) (C0 : lw_At p s m meth c b 4 xs) (C : lw_C5 D s H locs x0 x1 m0 m1 o cX cM cO f g h fx fm) (hc : cells ≤ 1000) (hs : slots ≤ 2000000) (hl : lv_has ls 8 [(4, .int 0), (3, .ref o), (2, .ref m0), (1, .ref x0), (0, .ref b)])  : W p l e room_1 s m #[Value.ref b] below meth c H locs cells slots (lw_Z below #[Value.ref b] s) (F0 m 733 ls []) := by
  have C9 := C0
  obtain ⟨hx, hb, hr, hml, hown, hts, hX, hbl, hlocks, hgv⟩ := C0
  have hbA : ¬ (fun q : Nat => s.heap.size ≤ q) b := Nat.not_le.mpr hbl
  have hS := C.S
  refine lv_aload_n hx hb lwd_733 rfl (lv_at hl 3 rfl) ?_
  refine lv_aload_n hx hb lwd_734 rfl (lv_at hl 4 rfl) ?_
  refine lv_iload hx hb lwd_735 (lv_at hl 0 rfl) ?_
  refine lv_iconst (v := 1) hx hb lwd_737 (by decide) ?_
  refine lv_iadd hx hb lwd_738 ?_
  refine va_sld hx hb hX hbl hbA hS (i := (0 + 1)) (by unfold vp_in; decide) lwd_739 ?_
  refine lv_topi (fun v_1 ev_1 => ?_)
  refine lv_aload_n hx hb lwd_740 rfl (lv_at hl 4 rfl) ?_
  refine lv_iload hx hb lwd_741 (lv_at hl 0 rfl) ?_
  refine lv_iconst (v := 2) hx hb lwd_743 (by decide) ?_
  refine lv_iadd hx hb lwd_744 ?_
  refine va_sld hx hb hX hbl hbA hS (i := (0 + 2)) (by unfold vp_in; decide) lwd_745 ?_
  refine lv_topi (fun v_2 ev_2 => ?_)
  refine lv_aload_n hx hb lwd_746 rfl (lv_at hl 1 rfl) ?_
  refine va_calli (vx_runSW (Ts := lw_tbl) (own := "TableTongueLaw") (As := [.ref x0, .int v_1, .int v_2, .ref o]) (rest := []) ⟨hx, hb, hml, hown, hts⟩ (w_L_object_bad l hst D x0 H.size fx C.x8 C.x9 C.x10 C.x11 v_1 v_2 o ) (lw_csw 4 hts (List.mem_of_getElem? (i := 2940) rfl) (by decide +kernel) (List.mem_of_getElem? (i := 2938) (by decide +kernel)) (List.mem_of_getElem? (i := 2939) (by decide +kernel)) (List.mem_of_getElem? (i := 393) (by decide +kernel)) rfl rfl ⟨by decide, by decide, by decide +kernel⟩ ⟨Nat.le_of_ble_eq_true rfl, Nat.le_of_ble_eq_true rfl⟩) ⟨lw_PX.blind, fun U hU hW => ⟨rfl, by rw [hU], by rw [hU]; exact C.P.sub [0] rfl, va_K.moved hW.alike (C.K.sub (tys' := []) [] rfl), C.E.go hW hU C.S (fun q h => Nat.le_trans C.S.1 h)⟩⟩ rfl rfl hl.1 rfl (lv_room (Nat.le_of_ble_eq_true rfl)) lwd_747 ⟨by show cells + 1 ≤ 600002; omega, by show slots + 6 ≤ 7302232; omega⟩) C.S (fun q h1 h => absurd h (Nat.not_le.mpr h1)) (fun q h => Nat.le_trans C.S.1 h) (fun r_747 u t H1 locs1 ht hvm hw _ hz1 hk1 hS => ?_)
  obtain rfl : r_747 = 1 := hw
  have C := C.kept hk1 hS
  refine lv_istore (lv' := [(5, .int 1), (4, .int 0), (3, .ref o), (2, .ref m0), (1, .ref x0), (0, .ref b)]) hx hb lwd_750 hl (by decide) rfl (fun ls hl => ?_)
  refine lv_aload_n hx hb lwd_752 rfl (lv_at hl 3 rfl) ?_
  refine lv_aload_n hx hb lwd_753 rfl (lv_at hl 5 rfl) ?_
  refine lv_iload hx hb lwd_754 (lv_at hl 1 rfl) ?_
  refine lv_iconst (v := 1) hx hb lwd_756 (by decide) ?_
  refine lv_iadd hx hb lwd_757 ?_
  refine va_sld hx hb hX hbl hbA hS (i := (0 + 1)) (by unfold vp_in; decide) lwd_758 ?_
  refine lv_topi (fun v_3 ev_3 => ?_)
  refine lv_aload_n hx hb lwd_759 rfl (lv_at hl 5 rfl) ?_
  refine lv_iload hx hb lwd_760 (lv_at hl 1 rfl) ?_
  refine lv_iconst (v := 2) hx hb lwd_762 (by decide) ?_
  refine lv_iadd hx hb lwd_763 ?_
  refine va_sld hx hb hX hbl hbA hS (i := (0 + 2)) (by unfold vp_in; decide) lwd_764 ?_
  refine lv_topi (fun v_4 ev_4 => ?_)
  have hPc := C.P.sub (ws' := [(m0, .inr (0, fm))]) [2] rfl
  have hDc := C.A.sub (ws' := [(m0, .inr (0, fm))]) [2] (by decide) rfl
  have hKc := C.K.sub (tys' := []) [] rfl
  have hFc := va_free (wc := [(m0, .inr (0, fm))]) hDc hS (fun _ h => h) [0] rfl
  refine va_calli (va_runV (As := [.int v_3, .int v_4]) (rest := []) (C := "TableTongueModel") (Ts := lw_tbl) ⟨hx, hb, hml, hown, hts⟩ (m_X12_object_ l D m0 H1.size fm C.lm 0 C.m0' C.m2 C.m3 C.m4 v_3 v_4 ) ⟨callB_of 2 hts (lw_GoodT (List.mem_of_getElem? (i := 4581) rfl) (by decide +kernel)) rfl rfl rfl (hts _ (List.mem_of_getElem? (i := 423) (by decide +kernel))) (hts _ (List.mem_of_getElem? (i := 4578) (by decide +kernel))) ⟨by decide, by decide, by decide +kernel⟩ ⟨Nat.le_of_ble_eq_true rfl, Nat.le_of_ble_eq_true rfl⟩, hts _ (List.mem_of_getElem? (i := 4579) (by decide +kernel)), hts _ (List.mem_of_getElem? (i := 4580) (by decide +kernel))⟩ ⟨lw_PM.blind, va_recv hKc hPc (ci := 0) (q0 := 0) rfl rfl, fun U hU hW => ⟨rfl, by rw [hU], by rw [hU]; exact hPc, va_K.moved hW.alike hKc, hDc.weaken (fun _ _ _ _ => trivial)⟩⟩ rfl rfl hl.1 rfl (lv_room (Nat.le_of_ble_eq_true rfl)) lwd_765 ⟨by show cells + 1 + 0 ≤ 600002; omega, by show slots + 6 + 0 ≤ 7302232; omega⟩) hS (fun q _ h => hFc q h) hFc (fun r_765 u t H2 locs2 ht hvm hw hB hz1 hk1 hS => ?_)
  obtain ⟨rfl, hu, hu0⟩ := hw
  obtain ⟨hP1, hK1, hD1⟩ := hB
  rw [ht] at hP1
  have hD1 := hD1.weaken (B := fun _ => True) (fun _ _ _ _ => trivial)
  refine lv_istore (lv' := [(6, .int 0), (5, .int 1), (4, .int 0), (3, .ref o), (2, .ref m0), (1, .ref x0), (0, .ref b)]) hx hb lwd_768 hl (by decide) rfl (fun ls hl => ?_)
  refine lv_aload_n hx hb lwd_770 rfl (lv_at hl 4 rfl) ?_
  refine va_calli (va_runV (As := []) (rest := []) (C := "TableTongueModel") (Ts := lw_tbl) ⟨hx, hb, hml, hown, hts⟩ (m_X12_thrown l D m0 H2.size u 1 hu0) ⟨callB_of 0 hts (lw_GoodT (List.mem_of_getElem? (i := 3553) rfl) (by decide +kernel)) rfl rfl rfl (hts _ (List.mem_of_getElem? (i := 423) (by decide +kernel))) (hts _ (List.mem_of_getElem? (i := 3550) (by decide +kernel))) ⟨by decide, by decide, by decide +kernel⟩ ⟨Nat.le_of_ble_eq_true rfl, Nat.le_of_ble_eq_true rfl⟩, hts _ (List.mem_of_getElem? (i := 3551) (by decide +kernel)), hts _ (List.mem_of_getElem? (i := 3552) (by decide +kernel))⟩ ⟨lw_PM.blind, va_recv hKc hP1 (ci := 0) (q0 := 0) rfl rfl, fun U hU hW => ⟨rfl, by rw [hU], by rw [hU]; exact hP1, va_K.moved hW.alike hKc, hD1⟩⟩ rfl rfl hl.1 rfl (lv_room (Nat.le_of_ble_eq_true rfl)) lwd_771 ⟨by show cells + 1 + 0 + 0 ≤ 600002; omega, by show slots + 6 + 0 + 0 ≤ 7302232; omega⟩) hS (fun q h1 h => absurd h (Nat.not_le.mpr h1)) (fun q h => Nat.le_trans hS.1 h) (fun r_771 u2 t H3 locs3 ht hvm hw _ hz1 hk3 hS => ?_)
  obtain rfl : r_771 = 1 := hw
  refine lv_iload hx hb lwd_774 (lv_at hl 1 rfl) ?_
  refine lv_icmp_eq (tgt := 781) hx hb lwd_776 (by decide) (fun _ => ?_) (fun z => absurd z (by decide))
  refine lv_iload hx hb lwd_781 (lv_at hl 1 rfl) ?_
  refine lv_if_ne (tgt := 798) hx hb lwd_783 (by decide) (fun _ => ?_) (fun z => absurd z (by decide))
  refine lv_goto (tgt := 880) hx hb lwd_798 (by decide) ?_
  exact lw_end C9 hS (by omega) (by omega) (lv_sub hl [2, 6] rfl)
set_option maxHeartbeats 4000000 in
set_option maxRecDepth 100000 in
theorem lw_c15 {p : Program} {l : Launch} {e : Env} {s : State} {m : MethodId} {below : List Frame} {meth : Method} {c : Code} {b : Nat} {xs : Nat → Int32} {H : Heap} {locs : List Loc} {cells slots : Nat} {ls : Array Slot} {D : va_G} {x0 x1 m0 m1 o : Nat} {cX cM cO : ClassId} {f g : Nat → Int32} {h : Nat → Int64} {fx fm : List Value} (hst : l.stackTraces = false) (C0 : lw_At p s m meth c b 4 xs) (C : lw_C5 D s H locs x0 x1 m0 m1 o cX cM cO f g h fx fm) (hc : cells ≤ 1000) (hs : slots ≤ 2000000) (hl : lv_has ls 8 [(4, .int 0), (3, .ref o), (2, .ref m0), (1, .ref x0), (0, .ref b)])  : W p l e room_1 s m #[Value.ref b] below meth c H locs cells slots (lw_Z below #[Value.ref b] s) (F0 m 801 ls []) := by
  have C9 := C0
  obtain ⟨hx, hb, hr, hml, hown, hts, hX, hbl, hlocks, hgv⟩ := C0
  have hbA : ¬ (fun q : Nat => s.heap.size ≤ q) b := Nat.not_le.mpr hbl
  have hS := C.S
  refine lv_aload_n hx hb lwd_801 rfl (lv_at hl 3 rfl) ?_
  refine lv_aload_n hx hb lwd_802 rfl (lv_at hl 4 rfl) ?_
  refine lv_iload hx hb lwd_803 (lv_at hl 0 rfl) ?_
  refine lv_iconst (v := 1) hx hb lwd_805 (by decide) ?_
  refine lv_iadd hx hb lwd_806 ?_
  refine va_sld hx hb hX hbl hbA hS (i := (0 + 1)) (by unfold vp_in; decide) lwd_807 ?_
  refine lv_topi (fun v_1 ev_1 => ?_)
  refine lv_aload_n hx hb lwd_808 rfl (lv_at hl 4 rfl) ?_
  refine lv_iload hx hb lwd_809 (lv_at hl 0 rfl) ?_
  refine lv_iconst (v := 2) hx hb lwd_811 (by decide) ?_
  refine lv_iadd hx hb lwd_812 ?_
  refine va_sld hx hb hX hbl hbA hS (i := (0 + 2)) (by unfold vp_in; decide) lwd_813 ?_
  refine lv_topi (fun v_2 ev_2 => ?_)
  refine lv_aload_n hx hb lwd_814 rfl (lv_at hl 4 rfl) ?_
  refine lv_iload hx hb lwd_815 (lv_at hl 0 rfl) ?_
  refine lv_iconst (v := 3) hx hb lwd_817 (by decide) ?_
  refine lv_iadd hx hb lwd_818 ?_
  refine va_sld hx hb hX hbl hbA hS (i := (0 + 3)) (by unfold vp_in; decide) lwd_819 ?_
  refine lv_topi (fun v_3 ev_3 => ?_)
  refine lv_aload_n hx hb lwd_820 rfl (lv_at hl 1 rfl) ?_
  refine va_calli (vx_runSW (Ts := lw_tbl) (own := "TableTongueLaw") (As := [.ref x0, .int v_1, .int v_2, .int v_3, .ref o]) (rest := []) ⟨hx, hb, hml, hown, hts⟩ (w_L_place_bad l hst D x0 H.size fx C.x8 C.x9 C.x10 C.x11 v_1 v_2 v_3 o ) (lw_csw 5 hts (List.mem_of_getElem? (i := 2948) rfl) (by decide +kernel) (List.mem_of_getElem? (i := 2946) (by decide +kernel)) (List.mem_of_getElem? (i := 2947) (by decide +kernel)) (List.mem_of_getElem? (i := 393) (by decide +kernel)) rfl rfl ⟨by decide, by decide, by decide +kernel⟩ ⟨Nat.le_of_ble_eq_true rfl, Nat.le_of_ble_eq_true rfl⟩) ⟨lw_PX.blind, fun U hU hW => ⟨rfl, by rw [hU], by rw [hU]; exact C.P.sub [0] rfl, va_K.moved hW.alike (C.K.sub (tys' := []) [] rfl), C.E.go hW hU C.S (fun q h => Nat.le_trans C.S.1 h)⟩⟩ rfl rfl hl.1 rfl (lv_room (Nat.le_of_ble_eq_true rfl)) lwd_821 ⟨by show cells + 1 ≤ 600002; omega, by show slots + 6 ≤ 7302232; omega⟩) C.S (fun q h1 h => absurd h (Nat.not_le.mpr h1)) (fun q h => Nat.le_trans C.S.1 h) (fun r_821 u t H1 locs1 ht hvm hw _ hz1 hk1 hS => ?_)
  obtain rfl : r_821 = 1 := hw
  have C := C.kept hk1 hS
  refine lv_istore (lv' := [(5, .int 1), (4, .int 0), (3, .ref o), (2, .ref m0), (1, .ref x0), (0, .ref b)]) hx hb lwd_824 hl (by decide) rfl (fun ls hl => ?_)
  refine lv_aload_n hx hb lwd_826 rfl (lv_at hl 3 rfl) ?_
  refine lv_aload_n hx hb lwd_827 rfl (lv_at hl 5 rfl) ?_
  refine lv_iload hx hb lwd_828 (lv_at hl 1 rfl) ?_
  refine lv_iconst (v := 1) hx hb lwd_830 (by decide) ?_
  refine lv_iadd hx hb lwd_831 ?_
  refine va_sld hx hb hX hbl hbA hS (i := (0 + 1)) (by unfold vp_in; decide) lwd_832 ?_
  refine lv_topi (fun v_4 ev_4 => ?_)
  refine lv_aload_n hx hb lwd_833 rfl (lv_at hl 5 rfl) ?_
  refine lv_iload hx hb lwd_834 (lv_at hl 1 rfl) ?_
  refine lv_iconst (v := 2) hx hb lwd_836 (by decide) ?_
  refine lv_iadd hx hb lwd_837 ?_
  refine va_sld hx hb hX hbl hbA hS (i := (0 + 2)) (by unfold vp_in; decide) lwd_838 ?_
  refine lv_topi (fun v_5 ev_5 => ?_)
  refine lv_aload_n hx hb lwd_839 rfl (lv_at hl 5 rfl) ?_
  refine lv_iload hx hb lwd_840 (lv_at hl 1 rfl) ?_
  refine lv_iconst (v := 3) hx hb lwd_842 (by decide) ?_
  refine lv_iadd hx hb lwd_843 ?_
  refine va_sld hx hb hX hbl hbA hS (i := (0 + 3)) (by unfold vp_in; decide) lwd_844 ?_
  refine lv_topi (fun v_6 ev_6 => ?_)
  have hPc := C.P.sub (ws' := [(m0, .inr (0, fm))]) [2] rfl
  have hDc := C.A.sub (ws' := [(m0, .inr (0, fm))]) [2] (by decide) rfl
  have hKc := C.K.sub (tys' := []) [] rfl
  have hFc := va_free (wc := [(m0, .inr (0, fm))]) hDc hS (fun _ h => h) [0] rfl
  refine va_calll (va_runV (As := [.int v_4, .int v_5, .int v_6]) (rest := []) (C := "TableTongueModel") (Ts := lw_tbl) ⟨hx, hb, hml, hown, hts⟩ (m_X12_place l D m0 H1.size fm C.lm 0 C.m0' C.m2 C.m3 C.m4 v_4 v_5 v_6 ) ⟨callB_of 3 hts (lw_GoodT (List.mem_of_getElem? (i := 4585) rfl) (by decide +kernel)) rfl rfl rfl (hts _ (List.mem_of_getElem? (i := 423) (by decide +kernel))) (hts _ (List.mem_of_getElem? (i := 4582) (by decide +kernel))) ⟨by decide, by decide, by decide +kernel⟩ ⟨Nat.le_of_ble_eq_true rfl, Nat.le_of_ble_eq_true rfl⟩, hts _ (List.mem_of_getElem? (i := 4583) (by decide +kernel)), hts _ (List.mem_of_getElem? (i := 4584) (by decide +kernel))⟩ ⟨lw_PM.blind, va_recv hKc hPc (ci := 0) (q0 := 0) rfl rfl, fun U hU hW => ⟨rfl, by rw [hU], by rw [hU]; exact hPc, va_K.moved hW.alike hKc, hDc.weaken (fun _ _ _ _ => trivial)⟩⟩ rfl rfl hl.1 rfl (lv_room (Nat.le_of_ble_eq_true rfl)) lwd_845 ⟨by show cells + 1 + 0 ≤ 600002; omega, by show slots + 6 + 0 ≤ 7302232; omega⟩) hS (fun q _ h => hFc q h) hFc (fun r_845 u t H2 locs2 ht hvm hw hB hz1 hk1 hS => ?_)
  obtain ⟨rfl, hu, hu0⟩ := hw
  obtain ⟨hP1, hK1, hD1⟩ := hB
  rw [ht] at hP1
  have hD1 := hD1.weaken (B := fun _ => True) (fun _ _ _ _ => trivial)
  refine lv_lstore (lv' := [(6, .long 0), (5, .int 1), (4, .int 0), (3, .ref o), (2, .ref m0), (1, .ref x0), (0, .ref b)]) hx hb lwd_848 hl (by decide) rfl (fun ls hl => ?_)
  refine lv_aload_n hx hb lwd_850 rfl (lv_at hl 4 rfl) ?_
  refine va_calli (va_runV (As := []) (rest := []) (C := "TableTongueModel") (Ts := lw_tbl) ⟨hx, hb, hml, hown, hts⟩ (m_X12_thrown l D m0 H2.size u 1 hu0) ⟨callB_of 0 hts (lw_GoodT (List.mem_of_getElem? (i := 3553) rfl) (by decide +kernel)) rfl rfl rfl (hts _ (List.mem_of_getElem? (i := 423) (by decide +kernel))) (hts _ (List.mem_of_getElem? (i := 3550) (by decide +kernel))) ⟨by decide, by decide, by decide +kernel⟩ ⟨Nat.le_of_ble_eq_true rfl, Nat.le_of_ble_eq_true rfl⟩, hts _ (List.mem_of_getElem? (i := 3551) (by decide +kernel)), hts _ (List.mem_of_getElem? (i := 3552) (by decide +kernel))⟩ ⟨lw_PM.blind, va_recv hKc hP1 (ci := 0) (q0 := 0) rfl rfl, fun U hU hW => ⟨rfl, by rw [hU], by rw [hU]; exact hP1, va_K.moved hW.alike hKc, hD1⟩⟩ rfl rfl hl.1 rfl (lv_room (Nat.le_of_ble_eq_true rfl)) lwd_851 ⟨by show cells + 1 + 0 + 0 ≤ 600002; omega, by show slots + 6 + 0 + 0 ≤ 7302232; omega⟩) hS (fun q h1 h => absurd h (Nat.not_le.mpr h1)) (fun q h => Nat.le_trans hS.1 h) (fun r_851 u2 t H3 locs3 ht hvm hw _ hz1 hk3 hS => ?_)
  obtain rfl : r_851 = 1 := hw
  refine lv_iload hx hb lwd_854 (lv_at hl 1 rfl) ?_
  refine lv_icmp_eq (tgt := 861) hx hb lwd_856 (by decide) (fun _ => ?_) (fun z => absurd z (by decide))
  refine lv_iload hx hb lwd_861 (lv_at hl 1 rfl) ?_
  refine lv_if_ne (tgt := 877) hx hb lwd_863 (by decide) (fun _ => ?_) (fun z => absurd z (by decide))
  refine lv_goto (tgt := 880) hx hb lwd_877 (by decide) ?_
  exact lw_end C9 hS (by omega) (by omega) (lv_sub hl [2, 6] rfl)
