/-! ===== 42: the law's sixteen cases over abstract contracts (by wip/whole2/law42.py) ===== -/
theorem wl_cmp0 (x : Int64) : lg_cmp x x = 0 := by simp [lg_cmp]
/-- the long that two ints of the script are -/
def wl_long (y z : Int32) : Int64 := (y.toInt64 <<< ((32 : Int32).toInt64 &&& 63)) ||| (z.toInt64 &&& 4294967295)
theorem wl_I_S {D : va_G} {s : State} {H : Heap} {locs : List Loc} {x0 m0 o : Nat} {cO : ClassId} {h : Nat → Int64} {KX KM : Nat → wl_Y → va_W → Prop} (I : wl_I D s H locs x0 m0 o cO h KX KM) : va_S (fun q : Nat => s.heap.size ≤ q) s.heap H locs := by
  obtain ⟨_, _, _, _, -, -, -, -, -, -, -, hS⟩ := I
  exact hS
set_option maxHeartbeats 4000000 in
set_option maxRecDepth 100000 in
theorem wl_c0 {p : Program} {l : Launch} {e : Env} {s : State} {m : MethodId} {below : List Frame} {meth : Method} {c : Code} {b L : Nat} {xs : Nat → Int32} {H : Heap} {locs : List Loc} {cells slots : Nat} {ls : Array Slot} {Q : State → Prop} {D : va_G} {ka : ev_KA} {x0 m0 o : Nat} {cO : ClassId} {h : Nat → Int64} {KX KM KX1 KM1 : Nat → wl_Y → va_W → Prop} {j : Nat} {r : Int32} {a : Int64} {a2 : Int32} {mx sx mm sm : Nat} (C0 : lw_At p s m meth c b L xs) (hCF : ev_CF al_dfl al_tyf ka (fun q : Nat => s.heap.size ≤ q) s) (hE : wl_EE (fun q : Nat => s.heap.size ≤ q) s) (hL : L ≤ 2048) (hj : j + 3 < L) (hl : lv_has ls 8 [(4, .int (nI j)), (3, .ref o), (2, .ref m0), (1, .ref x0), (0, .ref b)]) (I : wl_I D s H locs x0 m0 o cO h KX KM) (hRM : wl_Rc 0 KM) (hRM1 : wl_Rc 0 KM1)
    (hX : wl_Wc l D ka ly_L_feed (lw_wH ly_L_feed method_3_code 6 (some .int) [(0, 11, 14, 13)]) x0 KX KX1 [.int (xs (j + 1)), .long (wl_long (xs (j + 2)) (xs (j + 3)))] r a mx sx)
    (hM : wl_M l D ka ly_X12_feed (lw_w ly_X12_feed prog_14_method_11_code 5 (some .int)) 1900 80000 (KM m0) [.ref m0, .int (xs (j + 1)), .long (wl_long (xs (j + 2)) (xs (j + 3)))] (fun v t w => v = some (.int a2) ∧ KM1 m0 t w) mm sm)
    (hT : wl_M l D ka ly_X12_thrown (lw_w ly_X12_thrown prog_14_method_2_code 1 (some .int)) 1900 80000 (KM1 m0) [.ref m0] (fun v t w => v = some (.int r) ∧ KM1 m0 t w) 0 0) (hab : r = 0 → a = a2.toInt64)
    (hc : cells + mx + mm ≤ 601024) (hs : slots + sx + sm ≤ room_1.slots)
    (kk : ∀ (ls : Array Slot) (H : Heap) (locs : List Loc) (h : Nat → Int64), lv_has ls 8 [(4, .int (nI j)), (3, .ref o), (2, .ref m0), (1, .ref x0), (0, .ref b)] → wl_I D s H locs x0 m0 o cO h KX1 KM1 → W p l e room_1 s m #[Value.ref b] below meth c H locs (cells + mx + mm) (slots + sx + sm) Q (F0 m 880 ls [])) : W p l e room_1 s m #[Value.ref b] below meth c H locs cells slots Q (F0 m 116 ls []) := by
  have C9 := C0
  obtain ⟨hx, hb, hr, hml, hown, hts, hX0, hbl, hlocks, hgv⟩ := C0
  refine lv_aload_n hx hb lwd_116 rfl (lv_at hl 3 rfl) ?_
  refine wl_arg (k := 1) C9 (wl_I_S I) (by omega) hL hl 4 rfl 0 rfl lwd_117 lwd_118 lwd_120 (by decide) lwd_121 lwd_122 ?_
  refine wl_arg (k := 2) C9 (wl_I_S I) (by omega) hL hl 4 rfl 0 rfl lwd_123 lwd_124 lwd_126 (by decide) lwd_127 lwd_128 ?_
  refine lv_i2l (v := (xs (j + 2)).toInt64) hx hb lwd_129 rfl ?_
  refine lv_bipush (v := 32) hx hb lwd_130 (by decide) ?_
  refine lv_lshl (v := (xs (j + 2)).toInt64 <<< ((32 : Int32).toInt64 &&& 63)) hx hb lwd_132 rfl ?_
  refine wl_arg (k := 3) C9 (wl_I_S I) (by omega) hL hl 4 rfl 0 rfl lwd_133 lwd_134 lwd_136 (by decide) lwd_137 lwd_138 ?_
  refine lv_i2l (v := (xs (j + 3)).toInt64) hx hb lwd_139 rfl ?_
  refine lv_ldc2 hx hb hown (hts (.constantLong "TableTongueLaw" 57 (4294967295)) (List.mem_of_getElem? (i := 4586) (by decide +kernel))) lwd_140 ?_
  refine lv_land hx hb lwd_143 ?_
  refine lv_lor hx hb lwd_144 ?_
  refine lv_aload_n hx hb lwd_145 rfl (lv_at hl 1 rfl) ?_
  refine wl_S (n := 4) (As := [.int (xs (j + 1)), .long (wl_long (xs (j + 2)) (xs (j + 3)))]) (rest := []) C9 hl.1 hCF hE I hX (List.mem_of_getElem? (i := 2098) rfl) (by decide +kernel) (List.mem_of_getElem? (i := 2096) (by decide +kernel)) (List.mem_of_getElem? (i := 2097) (by decide +kernel)) (List.mem_of_getElem? (i := 393) (by decide +kernel)) ⟨by decide, by decide, by decide +kernel⟩ rfl (Nat.le_of_ble_eq_true rfl) (by omega) (by omega) (Nat.le_of_ble_eq_true rfl) lwd_146 rfl (fun H locs h hr0 I => ?_)
  refine lv_istore (lv' := [(5, .int r), (4, .int (nI j)), (3, .ref o), (2, .ref m0), (1, .ref x0), (0, .ref b)]) hx hb lwd_149 hl (by decide) rfl (fun ls hl => ?_)
  refine lv_aload_n hx hb lwd_151 rfl (lv_at hl 3 rfl) ?_
  refine wl_arg (k := 1) C9 (wl_I_S I) (by omega) hL hl 5 rfl 1 rfl lwd_152 lwd_153 lwd_155 (by decide) lwd_156 lwd_157 ?_
  refine wl_arg (k := 2) C9 (wl_I_S I) (by omega) hL hl 5 rfl 1 rfl lwd_158 lwd_159 lwd_161 (by decide) lwd_162 lwd_163 ?_
  refine lv_i2l (v := (xs (j + 2)).toInt64) hx hb lwd_164 rfl ?_
  refine lv_bipush (v := 32) hx hb lwd_165 (by decide) ?_
  refine lv_lshl (v := (xs (j + 2)).toInt64 <<< ((32 : Int32).toInt64 &&& 63)) hx hb lwd_167 rfl ?_
  refine wl_arg (k := 3) C9 (wl_I_S I) (by omega) hL hl 5 rfl 1 rfl lwd_168 lwd_169 lwd_171 (by decide) lwd_172 lwd_173 ?_
  refine lv_i2l (v := (xs (j + 3)).toInt64) hx hb lwd_174 rfl ?_
  refine lv_ldc2 hx hb hown (hts (.constantLong "TableTongueLaw" 57 (4294967295)) (List.mem_of_getElem? (i := 4586) (by decide +kernel))) lwd_175 ?_
  refine lv_land hx hb lwd_178 ?_
  refine lv_lor hx hb lwd_179 ?_
  refine wl_R (n := 2) (As := [.int (xs (j + 1)), .long (wl_long (xs (j + 2)) (xs (j + 3)))]) (rest := []) C9 hl.1 hCF hE I hRM hM (List.mem_of_getElem? (i := 3557) rfl) (by decide +kernel) (List.mem_of_getElem? (i := 423) (by decide +kernel)) (List.mem_of_getElem? (i := 3554) (by decide +kernel)) (List.mem_of_getElem? (i := 3555) (by decide +kernel)) (List.mem_of_getElem? (i := 3556) (by decide +kernel)) ⟨by decide, by decide, by decide +kernel⟩ rfl (Nat.le_of_ble_eq_true rfl) (by omega) (by omega) (Nat.le_of_ble_eq_true rfl) lwd_180 (fun H locs I => ?_)
  refine lv_istore (lv' := [(6, .int a2), (5, .int r), (4, .int (nI j)), (3, .ref o), (2, .ref m0), (1, .ref x0), (0, .ref b)]) hx hb lwd_183 hl (by decide) rfl (fun ls hl => ?_)
  refine lv_aload_n hx hb lwd_185 rfl (lv_at hl 4 rfl) ?_
  refine wl_R (As := []) (rest := []) C9 hl.1 hCF hE I hRM1 hT (List.mem_of_getElem? (i := 3553) rfl) (by decide +kernel) (List.mem_of_getElem? (i := 423) (by decide +kernel)) (List.mem_of_getElem? (i := 3550) (by decide +kernel)) (List.mem_of_getElem? (i := 3551) (by decide +kernel)) (List.mem_of_getElem? (i := 3552) (by decide +kernel)) ⟨by decide, by decide, by decide +kernel⟩ rfl (Nat.le_of_ble_eq_true rfl) (by omega) (by omega) (Nat.le_of_ble_eq_true rfl) lwd_186 (fun H locs I => ?_)
  refine lv_iload hx hb lwd_189 (lv_at hl 1 rfl) ?_
  refine lv_icmp_eq (tgt := 196) hx hb lwd_191 (by decide) (fun _ => ?_) (fun z => absurd rfl z)
  refine lv_iload hx hb lwd_196 (lv_at hl 1 rfl) ?_
  have hl0 : lv_has ls 8 [(4, .int (nI j)), (3, .ref o), (2, .ref m0), (1, .ref x0), (0, .ref b)] := lv_sub hl [2, 3, 4, 5, 6] rfl
  refine lv_if_ne (tgt := 213) hx hb lwd_198 (by decide) (fun _ => lv_goto (tgt := 880) hx hb lwd_213 (by decide) (kk ls H locs h hl0 I)) (fun hz => ?_)
  obtain ⟨tX, tM, wX, wM, k1, k2, k3, k4, k5, k6, k7, k8⟩ := I
  refine lv_aload_n hx hb lwd_201 rfl (lv_at hl 3 rfl) ?_
  refine lv_iconst (v := 0) hx hb lwd_202 (by decide) ?_
  refine va_lald hx hb k7 k3 0 0 rfl rfl (show vp_in (nI 0) 1 from vp_in_nI (by decide) (by decide)) lwd_203 ?_
  refine lv_topl (fun vo evo => ?_)
  have evo : vo = h 0 := evo
  obtain rfl : vo = a2.toInt64 := evo.trans ((hr0 hz).trans (hab hz))
  refine lv_iload hx hb lwd_204 (lv_at hl 0 rfl) ?_
  refine lv_i2l (v := a2.toInt64) hx hb lwd_206 rfl ?_
  refine W.lcmp hx hb lwd_207 ?_
  rw [wl_cmp0]
  refine lv_if_eq (tgt := 213) hx hb lwd_208 (by decide) (fun _ => ?_) (fun z => absurd rfl z)
  refine lv_goto (tgt := 880) hx hb lwd_213 (by decide) ?_
  exact kk ls H locs h hl0 ⟨tX, tM, wX, wM, k1, k2, k3, k4, k5, k6, k7, k8⟩
set_option maxHeartbeats 4000000 in
set_option maxRecDepth 100000 in
theorem wl_c1 {p : Program} {l : Launch} {e : Env} {s : State} {m : MethodId} {below : List Frame} {meth : Method} {c : Code} {b L : Nat} {xs : Nat → Int32} {H : Heap} {locs : List Loc} {cells slots : Nat} {ls : Array Slot} {Q : State → Prop} {D : va_G} {ka : ev_KA} {x0 m0 o : Nat} {cO : ClassId} {h : Nat → Int64} {KX KM KX1 KM1 : Nat → wl_Y → va_W → Prop} {j : Nat} {a : Int32} {mx sx mm sm : Nat} (C0 : lw_At p s m meth c b L xs) (hCF : ev_CF al_dfl al_tyf ka (fun q : Nat => s.heap.size ≤ q) s) (hE : wl_EE (fun q : Nat => s.heap.size ≤ q) s) (hL : L ≤ 2048) (hj : j + 3 < L) (hl : lv_has ls 8 [(4, .int (nI j)), (3, .ref o), (2, .ref m0), (1, .ref x0), (0, .ref b)]) (I : wl_I D s H locs x0 m0 o cO h KX KM) (hRX : wl_Rc 3 KX) (hRM : wl_Rc 0 KM)
    (hX : wl_M l D ka ly_X11_wipe (lw_w ly_X11_wipe prog_1_method_3_code 2 (some .int)) 1900 80000 (KX x0) [.ref x0] (fun v t w => v = some (.int a) ∧ KX1 x0 t w) mx sx) (hM : wl_M l D ka ly_X12_wipe (lw_w ly_X12_wipe prog_14_method_12_code 2 (some .int)) 1900 80000 (KM m0) [.ref m0] (fun v t w => v = some (.int a) ∧ KM1 m0 t w) mm sm)
    (hc : cells + mx + mm ≤ 601024) (hs : slots + sx + sm ≤ room_1.slots)
    (kk : ∀ (ls : Array Slot) (H : Heap) (locs : List Loc) (h : Nat → Int64), lv_has ls 8 [(4, .int (nI j)), (3, .ref o), (2, .ref m0), (1, .ref x0), (0, .ref b)] → wl_I D s H locs x0 m0 o cO h KX1 KM1 → W p l e room_1 s m #[Value.ref b] below meth c H locs (cells + mx + mm) (slots + sx + sm) Q (F0 m 880 ls [])) : W p l e room_1 s m #[Value.ref b] below meth c H locs cells slots Q (F0 m 216 ls []) := by
  have C9 := C0
  obtain ⟨hx, hb, hr, hml, hown, hts, hX0, hbl, hlocks, hgv⟩ := C0
  refine lv_aload_n hx hb lwd_216 rfl (lv_at hl 3 rfl) ?_
  refine wl_X (As := []) C9 hl.1 hCF hE I hRX hX (List.mem_of_getElem? (i := 1617) rfl) (by decide +kernel) (List.mem_of_getElem? (i := 394) (by decide +kernel)) (List.mem_of_getElem? (i := 1614) (by decide +kernel)) (List.mem_of_getElem? (i := 1615) (by decide +kernel)) (List.mem_of_getElem? (i := 1616) (by decide +kernel)) ⟨by decide, by decide, by decide +kernel⟩ rfl (Nat.le_of_ble_eq_true rfl) (by omega) (by omega) (Nat.le_of_ble_eq_true rfl) lwd_217 (fun H locs I => ?_)
  refine lv_aload_n hx hb lwd_220 rfl (lv_at hl 2 rfl) ?_
  refine wl_R (As := []) C9 hl.1 hCF hE I hRM hM (List.mem_of_getElem? (i := 3561) rfl) (by decide +kernel) (List.mem_of_getElem? (i := 423) (by decide +kernel)) (List.mem_of_getElem? (i := 3558) (by decide +kernel)) (List.mem_of_getElem? (i := 3559) (by decide +kernel)) (List.mem_of_getElem? (i := 3560) (by decide +kernel)) ⟨by decide, by decide, by decide +kernel⟩ rfl (Nat.le_of_ble_eq_true rfl) (by omega) (by omega) (Nat.le_of_ble_eq_true rfl) lwd_221 (fun H locs I => ?_)
  refine lv_icmp_eq (tgt := 880) hx hb lwd_224 (by decide) (fun _ => ?_) (fun z => absurd rfl z)
  exact kk ls H locs h hl I
set_option maxHeartbeats 4000000 in
set_option maxRecDepth 100000 in
theorem wl_c2 {p : Program} {l : Launch} {e : Env} {s : State} {m : MethodId} {below : List Frame} {meth : Method} {c : Code} {b L : Nat} {xs : Nat → Int32} {H : Heap} {locs : List Loc} {cells slots : Nat} {ls : Array Slot} {Q : State → Prop} {D : va_G} {ka : ev_KA} {x0 m0 o : Nat} {cO : ClassId} {h : Nat → Int64} {KX KM KX1 KM1 : Nat → wl_Y → va_W → Prop} {j : Nat} {a : Int32} {mx sx mm sm : Nat} (C0 : lw_At p s m meth c b L xs) (hCF : ev_CF al_dfl al_tyf ka (fun q : Nat => s.heap.size ≤ q) s) (hE : wl_EE (fun q : Nat => s.heap.size ≤ q) s) (hL : L ≤ 2048) (hj : j + 3 < L) (hl : lv_has ls 8 [(4, .int (nI j)), (3, .ref o), (2, .ref m0), (1, .ref x0), (0, .ref b)]) (I : wl_I D s H locs x0 m0 o cO h KX KM) (hRX : wl_Rc 3 KX) (hRM : wl_Rc 0 KM)
    (hX : wl_M l D ka al_yX11_compile (lw_w al_yX11_compile prog_1_method_4_code 2 (some .int)) 1900 80000 (KX x0) [.ref x0] (fun v t w => v = some (.int a) ∧ KX1 x0 t w) mx sx) (hM : wl_M l D ka al_yX12_compile (lw_w al_yX12_compile prog_14_method_106_code 2 (some .int)) 1900 80000 (KM m0) [.ref m0] (fun v t w => v = some (.int a) ∧ KM1 m0 t w) mm sm)
    (hc : cells + mx + mm ≤ 601024) (hs : slots + sx + sm ≤ room_1.slots)
    (kk : ∀ (ls : Array Slot) (H : Heap) (locs : List Loc) (h : Nat → Int64), lv_has ls 8 [(4, .int (nI j)), (3, .ref o), (2, .ref m0), (1, .ref x0), (0, .ref b)] → wl_I D s H locs x0 m0 o cO h KX1 KM1 → W p l e room_1 s m #[Value.ref b] below meth c H locs (cells + mx + mm) (slots + sx + sm) Q (F0 m 880 ls [])) : W p l e room_1 s m #[Value.ref b] below meth c H locs cells slots Q (F0 m 229 ls []) := by
  have C9 := C0
  obtain ⟨hx, hb, hr, hml, hown, hts, hX0, hbl, hlocks, hgv⟩ := C0
  refine lv_aload_n hx hb lwd_229 rfl (lv_at hl 3 rfl) ?_
  refine wl_X (As := []) C9 hl.1 hCF hE I hRX hX (List.mem_of_getElem? (i := 1625) rfl) (by decide +kernel) (List.mem_of_getElem? (i := 394) (by decide +kernel)) (List.mem_of_getElem? (i := 1622) (by decide +kernel)) (List.mem_of_getElem? (i := 1623) (by decide +kernel)) (List.mem_of_getElem? (i := 1624) (by decide +kernel)) ⟨by decide, by decide, by decide +kernel⟩ rfl (Nat.le_of_ble_eq_true rfl) (by omega) (by omega) (Nat.le_of_ble_eq_true rfl) lwd_230 (fun H locs I => ?_)
  refine lv_aload_n hx hb lwd_233 rfl (lv_at hl 2 rfl) ?_
  refine wl_R (As := []) C9 hl.1 hCF hE I hRM hM (List.mem_of_getElem? (i := 3565) rfl) (by decide +kernel) (List.mem_of_getElem? (i := 423) (by decide +kernel)) (List.mem_of_getElem? (i := 3562) (by decide +kernel)) (List.mem_of_getElem? (i := 3563) (by decide +kernel)) (List.mem_of_getElem? (i := 3564) (by decide +kernel)) ⟨by decide, by decide, by decide +kernel⟩ rfl (Nat.le_of_ble_eq_true rfl) (by omega) (by omega) (Nat.le_of_ble_eq_true rfl) lwd_234 (fun H locs I => ?_)
  refine lv_icmp_eq (tgt := 880) hx hb lwd_237 (by decide) (fun _ => ?_) (fun z => absurd rfl z)
  exact kk ls H locs h hl I
set_option maxHeartbeats 4000000 in
set_option maxRecDepth 100000 in
theorem wl_c3 {p : Program} {l : Launch} {e : Env} {s : State} {m : MethodId} {below : List Frame} {meth : Method} {c : Code} {b L : Nat} {xs : Nat → Int32} {H : Heap} {locs : List Loc} {cells slots : Nat} {ls : Array Slot} {Q : State → Prop} {D : va_G} {ka : ev_KA} {x0 m0 o : Nat} {cO : ClassId} {h : Nat → Int64} {KX KM KX1 KM1 : Nat → wl_Y → va_W → Prop} {j : Nat} {r : Int32} {a : Int64} {a2 : Int32} {mx sx mm sm : Nat} (C0 : lw_At p s m meth c b L xs) (hCF : ev_CF al_dfl al_tyf ka (fun q : Nat => s.heap.size ≤ q) s) (hE : wl_EE (fun q : Nat => s.heap.size ≤ q) s) (hL : L ≤ 2048) (hj : j + 3 < L) (hl : lv_has ls 8 [(4, .int (nI j)), (3, .ref o), (2, .ref m0), (1, .ref x0), (0, .ref b)]) (I : wl_I D s H locs x0 m0 o cO h KX KM) (hRM : wl_Rc 0 KM) (hRM1 : wl_Rc 0 KM1)
    (hX : wl_Wc l D ka ly_L_fault (lw_wH ly_L_fault method_4_code 4 (some .int) [(0, 9, 12, 19)]) x0 KX KX1 [.int (xs (j + 1))] r a mx sx)
    (hM : wl_M l D ka ly_X12_fault (lw_w ly_X12_fault prog_14_method_107_code 2 (some .int)) 1900 80000 (KM m0) [.ref m0, .int (xs (j + 1))] (fun v t w => v = some (.int a2) ∧ KM1 m0 t w) mm sm)
    (hT : wl_M l D ka ly_X12_thrown (lw_w ly_X12_thrown prog_14_method_2_code 1 (some .int)) 1900 80000 (KM1 m0) [.ref m0] (fun v t w => v = some (.int r) ∧ KM1 m0 t w) 0 0) (hab : r = 0 → a = a2.toInt64)
    (hc : cells + mx + mm ≤ 601024) (hs : slots + sx + sm ≤ room_1.slots)
    (kk : ∀ (ls : Array Slot) (H : Heap) (locs : List Loc) (h : Nat → Int64), lv_has ls 8 [(4, .int (nI j)), (3, .ref o), (2, .ref m0), (1, .ref x0), (0, .ref b)] → wl_I D s H locs x0 m0 o cO h KX1 KM1 → W p l e room_1 s m #[Value.ref b] below meth c H locs (cells + mx + mm) (slots + sx + sm) Q (F0 m 880 ls [])) : W p l e room_1 s m #[Value.ref b] below meth c H locs cells slots Q (F0 m 242 ls []) := by
  have C9 := C0
  obtain ⟨hx, hb, hr, hml, hown, hts, hX0, hbl, hlocks, hgv⟩ := C0
  refine lv_aload_n hx hb lwd_242 rfl (lv_at hl 3 rfl) ?_
  refine wl_arg (k := 1) C9 (wl_I_S I) (by omega) hL hl 4 rfl 0 rfl lwd_243 lwd_244 lwd_246 (by decide) lwd_247 lwd_248 ?_
  refine lv_aload_n hx hb lwd_249 rfl (lv_at hl 1 rfl) ?_
  refine wl_S (n := 3) (As := [.int (xs (j + 1))]) (rest := []) C9 hl.1 hCF hE I hX (List.mem_of_getElem? (i := 2117) rfl) (by decide +kernel) (List.mem_of_getElem? (i := 2115) (by decide +kernel)) (List.mem_of_getElem? (i := 2116) (by decide +kernel)) (List.mem_of_getElem? (i := 393) (by decide +kernel)) ⟨by decide, by decide, by decide +kernel⟩ rfl (Nat.le_of_ble_eq_true rfl) (by omega) (by omega) (Nat.le_of_ble_eq_true rfl) lwd_250 rfl (fun H locs h hr0 I => ?_)
  refine lv_istore (lv' := [(5, .int r), (4, .int (nI j)), (3, .ref o), (2, .ref m0), (1, .ref x0), (0, .ref b)]) hx hb lwd_253 hl (by decide) rfl (fun ls hl => ?_)
  refine lv_aload_n hx hb lwd_255 rfl (lv_at hl 3 rfl) ?_
  refine wl_arg (k := 1) C9 (wl_I_S I) (by omega) hL hl 5 rfl 1 rfl lwd_256 lwd_257 lwd_259 (by decide) lwd_260 lwd_261 ?_
  refine wl_R (n := 1) (As := [.int (xs (j + 1))]) (rest := []) C9 hl.1 hCF hE I hRM hM (List.mem_of_getElem? (i := 4013) rfl) (by decide +kernel) (List.mem_of_getElem? (i := 423) (by decide +kernel)) (List.mem_of_getElem? (i := 4010) (by decide +kernel)) (List.mem_of_getElem? (i := 4011) (by decide +kernel)) (List.mem_of_getElem? (i := 4012) (by decide +kernel)) ⟨by decide, by decide, by decide +kernel⟩ rfl (Nat.le_of_ble_eq_true rfl) (by omega) (by omega) (Nat.le_of_ble_eq_true rfl) lwd_262 (fun H locs I => ?_)
  refine lv_istore (lv' := [(6, .int a2), (5, .int r), (4, .int (nI j)), (3, .ref o), (2, .ref m0), (1, .ref x0), (0, .ref b)]) hx hb lwd_265 hl (by decide) rfl (fun ls hl => ?_)
  refine lv_aload_n hx hb lwd_267 rfl (lv_at hl 4 rfl) ?_
  refine wl_R (As := []) (rest := []) C9 hl.1 hCF hE I hRM1 hT (List.mem_of_getElem? (i := 3553) rfl) (by decide +kernel) (List.mem_of_getElem? (i := 423) (by decide +kernel)) (List.mem_of_getElem? (i := 3550) (by decide +kernel)) (List.mem_of_getElem? (i := 3551) (by decide +kernel)) (List.mem_of_getElem? (i := 3552) (by decide +kernel)) ⟨by decide, by decide, by decide +kernel⟩ rfl (Nat.le_of_ble_eq_true rfl) (by omega) (by omega) (Nat.le_of_ble_eq_true rfl) lwd_268 (fun H locs I => ?_)
  refine lv_iload hx hb lwd_271 (lv_at hl 1 rfl) ?_
  refine lv_icmp_eq (tgt := 278) hx hb lwd_273 (by decide) (fun _ => ?_) (fun z => absurd rfl z)
  refine lv_iload hx hb lwd_278 (lv_at hl 1 rfl) ?_
  have hl0 : lv_has ls 8 [(4, .int (nI j)), (3, .ref o), (2, .ref m0), (1, .ref x0), (0, .ref b)] := lv_sub hl [2, 3, 4, 5, 6] rfl
  refine lv_if_ne (tgt := 295) hx hb lwd_280 (by decide) (fun _ => lv_goto (tgt := 880) hx hb lwd_295 (by decide) (kk ls H locs h hl0 I)) (fun hz => ?_)
  obtain ⟨tX, tM, wX, wM, k1, k2, k3, k4, k5, k6, k7, k8⟩ := I
  refine lv_aload_n hx hb lwd_283 rfl (lv_at hl 3 rfl) ?_
  refine lv_iconst (v := 0) hx hb lwd_284 (by decide) ?_
  refine va_lald hx hb k7 k3 0 0 rfl rfl (show vp_in (nI 0) 1 from vp_in_nI (by decide) (by decide)) lwd_285 ?_
  refine lv_topl (fun vo evo => ?_)
  have evo : vo = h 0 := evo
  obtain rfl : vo = a2.toInt64 := evo.trans ((hr0 hz).trans (hab hz))
  refine lv_iload hx hb lwd_286 (lv_at hl 0 rfl) ?_
  refine lv_i2l (v := a2.toInt64) hx hb lwd_288 rfl ?_
  refine W.lcmp hx hb lwd_289 ?_
  rw [wl_cmp0]
  refine lv_if_eq (tgt := 295) hx hb lwd_290 (by decide) (fun _ => ?_) (fun z => absurd rfl z)
  refine lv_goto (tgt := 880) hx hb lwd_295 (by decide) ?_
  exact kk ls H locs h hl0 ⟨tX, tM, wX, wM, k1, k2, k3, k4, k5, k6, k7, k8⟩
set_option maxHeartbeats 4000000 in
set_option maxRecDepth 100000 in
theorem wl_c4 {p : Program} {l : Launch} {e : Env} {s : State} {m : MethodId} {below : List Frame} {meth : Method} {c : Code} {b L : Nat} {xs : Nat → Int32} {H : Heap} {locs : List Loc} {cells slots : Nat} {ls : Array Slot} {Q : State → Prop} {D : va_G} {ka : ev_KA} {x0 m0 o : Nat} {cO : ClassId} {h : Nat → Int64} {KX KM KX1 KM1 : Nat → wl_Y → va_W → Prop} {j : Nat} {r : Int32} {a : Int64} {a2 : Int32} {mx sx mm sm : Nat} (C0 : lw_At p s m meth c b L xs) (hCF : ev_CF al_dfl al_tyf ka (fun q : Nat => s.heap.size ≤ q) s) (hE : wl_EE (fun q : Nat => s.heap.size ≤ q) s) (hL : L ≤ 2048) (hj : j + 3 < L) (hl : lv_has ls 8 [(4, .int (nI j)), (3, .ref o), (2, .ref m0), (1, .ref x0), (0, .ref b)]) (I : wl_I D s H locs x0 m0 o cO h KX KM) (hRM : wl_Rc 0 KM) (hRM1 : wl_Rc 0 KM1)
    (hX : wl_Wc l D ka ly_L_function (lw_wH ly_L_function method_5_code 5 (some .int) [(0, 10, 13, 19)]) x0 KX KX1 [.int (xs (j + 1)), .int (xs (j + 2))] r a mx sx)
    (hM : wl_M l D ka ly_X12_function (lw_w ly_X12_function prog_14_method_108_code 3 (some .int)) 1900 80000 (KM m0) [.ref m0, .int (xs (j + 1)), .int (xs (j + 2))] (fun v t w => v = some (.int a2) ∧ KM1 m0 t w) mm sm)
    (hT : wl_M l D ka ly_X12_thrown (lw_w ly_X12_thrown prog_14_method_2_code 1 (some .int)) 1900 80000 (KM1 m0) [.ref m0] (fun v t w => v = some (.int r) ∧ KM1 m0 t w) 0 0) (hab : r = 0 → a = a2.toInt64)
    (hc : cells + mx + mm ≤ 601024) (hs : slots + sx + sm ≤ room_1.slots)
    (kk : ∀ (ls : Array Slot) (H : Heap) (locs : List Loc) (h : Nat → Int64), lv_has ls 8 [(4, .int (nI j)), (3, .ref o), (2, .ref m0), (1, .ref x0), (0, .ref b)] → wl_I D s H locs x0 m0 o cO h KX1 KM1 → W p l e room_1 s m #[Value.ref b] below meth c H locs (cells + mx + mm) (slots + sx + sm) Q (F0 m 880 ls [])) : W p l e room_1 s m #[Value.ref b] below meth c H locs cells slots Q (F0 m 298 ls []) := by
  have C9 := C0
  obtain ⟨hx, hb, hr, hml, hown, hts, hX0, hbl, hlocks, hgv⟩ := C0
  refine lv_aload_n hx hb lwd_298 rfl (lv_at hl 3 rfl) ?_
  refine wl_arg (k := 1) C9 (wl_I_S I) (by omega) hL hl 4 rfl 0 rfl lwd_299 lwd_300 lwd_302 (by decide) lwd_303 lwd_304 ?_
  refine wl_arg (k := 2) C9 (wl_I_S I) (by omega) hL hl 4 rfl 0 rfl lwd_305 lwd_306 lwd_308 (by decide) lwd_309 lwd_310 ?_
  refine lv_aload_n hx hb lwd_311 rfl (lv_at hl 1 rfl) ?_
  refine wl_S (n := 4) (As := [.int (xs (j + 1)), .int (xs (j + 2))]) (rest := []) C9 hl.1 hCF hE I hX (List.mem_of_getElem? (i := 2140) rfl) (by decide +kernel) (List.mem_of_getElem? (i := 2138) (by decide +kernel)) (List.mem_of_getElem? (i := 2139) (by decide +kernel)) (List.mem_of_getElem? (i := 393) (by decide +kernel)) ⟨by decide, by decide, by decide +kernel⟩ rfl (Nat.le_of_ble_eq_true rfl) (by omega) (by omega) (Nat.le_of_ble_eq_true rfl) lwd_312 rfl (fun H locs h hr0 I => ?_)
  refine lv_istore (lv' := [(5, .int r), (4, .int (nI j)), (3, .ref o), (2, .ref m0), (1, .ref x0), (0, .ref b)]) hx hb lwd_315 hl (by decide) rfl (fun ls hl => ?_)
  refine lv_aload_n hx hb lwd_317 rfl (lv_at hl 3 rfl) ?_
  refine wl_arg (k := 1) C9 (wl_I_S I) (by omega) hL hl 5 rfl 1 rfl lwd_318 lwd_319 lwd_321 (by decide) lwd_322 lwd_323 ?_
  refine wl_arg (k := 2) C9 (wl_I_S I) (by omega) hL hl 5 rfl 1 rfl lwd_324 lwd_325 lwd_327 (by decide) lwd_328 lwd_329 ?_
  refine wl_R (n := 2) (As := [.int (xs (j + 1)), .int (xs (j + 2))]) (rest := []) C9 hl.1 hCF hE I hRM hM (List.mem_of_getElem? (i := 4017) rfl) (by decide +kernel) (List.mem_of_getElem? (i := 423) (by decide +kernel)) (List.mem_of_getElem? (i := 4014) (by decide +kernel)) (List.mem_of_getElem? (i := 4015) (by decide +kernel)) (List.mem_of_getElem? (i := 4016) (by decide +kernel)) ⟨by decide, by decide, by decide +kernel⟩ rfl (Nat.le_of_ble_eq_true rfl) (by omega) (by omega) (Nat.le_of_ble_eq_true rfl) lwd_330 (fun H locs I => ?_)
  refine lv_istore (lv' := [(6, .int a2), (5, .int r), (4, .int (nI j)), (3, .ref o), (2, .ref m0), (1, .ref x0), (0, .ref b)]) hx hb lwd_333 hl (by decide) rfl (fun ls hl => ?_)
  refine lv_aload_n hx hb lwd_335 rfl (lv_at hl 4 rfl) ?_
  refine wl_R (As := []) (rest := []) C9 hl.1 hCF hE I hRM1 hT (List.mem_of_getElem? (i := 3553) rfl) (by decide +kernel) (List.mem_of_getElem? (i := 423) (by decide +kernel)) (List.mem_of_getElem? (i := 3550) (by decide +kernel)) (List.mem_of_getElem? (i := 3551) (by decide +kernel)) (List.mem_of_getElem? (i := 3552) (by decide +kernel)) ⟨by decide, by decide, by decide +kernel⟩ rfl (Nat.le_of_ble_eq_true rfl) (by omega) (by omega) (Nat.le_of_ble_eq_true rfl) lwd_336 (fun H locs I => ?_)
  refine lv_iload hx hb lwd_339 (lv_at hl 1 rfl) ?_
  refine lv_icmp_eq (tgt := 346) hx hb lwd_341 (by decide) (fun _ => ?_) (fun z => absurd rfl z)
  refine lv_iload hx hb lwd_346 (lv_at hl 1 rfl) ?_
  have hl0 : lv_has ls 8 [(4, .int (nI j)), (3, .ref o), (2, .ref m0), (1, .ref x0), (0, .ref b)] := lv_sub hl [2, 3, 4, 5, 6] rfl
  refine lv_if_ne (tgt := 363) hx hb lwd_348 (by decide) (fun _ => lv_goto (tgt := 880) hx hb lwd_363 (by decide) (kk ls H locs h hl0 I)) (fun hz => ?_)
  obtain ⟨tX, tM, wX, wM, k1, k2, k3, k4, k5, k6, k7, k8⟩ := I
  refine lv_aload_n hx hb lwd_351 rfl (lv_at hl 3 rfl) ?_
  refine lv_iconst (v := 0) hx hb lwd_352 (by decide) ?_
  refine va_lald hx hb k7 k3 0 0 rfl rfl (show vp_in (nI 0) 1 from vp_in_nI (by decide) (by decide)) lwd_353 ?_
  refine lv_topl (fun vo evo => ?_)
  have evo : vo = h 0 := evo
  obtain rfl : vo = a2.toInt64 := evo.trans ((hr0 hz).trans (hab hz))
  refine lv_iload hx hb lwd_354 (lv_at hl 0 rfl) ?_
  refine lv_i2l (v := a2.toInt64) hx hb lwd_356 rfl ?_
  refine W.lcmp hx hb lwd_357 ?_
  rw [wl_cmp0]
  refine lv_if_eq (tgt := 363) hx hb lwd_358 (by decide) (fun _ => ?_) (fun z => absurd rfl z)
  refine lv_goto (tgt := 880) hx hb lwd_363 (by decide) ?_
  exact kk ls H locs h hl0 ⟨tX, tM, wX, wM, k1, k2, k3, k4, k5, k6, k7, k8⟩
set_option maxHeartbeats 4000000 in
set_option maxRecDepth 100000 in
theorem wl_c5 {p : Program} {l : Launch} {e : Env} {s : State} {m : MethodId} {below : List Frame} {meth : Method} {c : Code} {b L : Nat} {xs : Nat → Int32} {H : Heap} {locs : List Loc} {cells slots : Nat} {ls : Array Slot} {Q : State → Prop} {D : va_G} {ka : ev_KA} {x0 m0 o : Nat} {cO : ClassId} {h : Nat → Int64} {KX KM KX1 KM1 : Nat → wl_Y → va_W → Prop} {j : Nat} {r : Int32} {mx sx mm sm : Nat} (C0 : lw_At p s m meth c b L xs) (hCF : ev_CF al_dfl al_tyf ka (fun q : Nat => s.heap.size ≤ q) s) (hE : wl_EE (fun q : Nat => s.heap.size ≤ q) s) (hL : L ≤ 2048) (hj : j + 3 < L) (hl : lv_has ls 8 [(4, .int (nI j)), (3, .ref o), (2, .ref m0), (1, .ref x0), (0, .ref b)]) (I : wl_I D s H locs x0 m0 o cO h KX KM) (hRM : wl_Rc 0 KM) (hRM1 : wl_Rc 0 KM1)
    (hX : wl_M l D ka ly_L_load (lw_wH ly_L_load method_6_code 2 (some .int) [(0, 4, 7, 28)]) 1950 82000 (KX x0) [.ref x0] (fun v t w => v = some (.int r) ∧ KX1 x0 t w) mx sx)
    (hM : wl_M l D ka ly_X12_load (lw_w ly_X12_load prog_14_method_238_code 1 none) 1900 80000 (KM m0) [.ref m0] (fun v t w => v = none ∧ KM1 m0 t w) mm sm)
    (hT : wl_M l D ka ly_X12_thrown (lw_w ly_X12_thrown prog_14_method_2_code 1 (some .int)) 1900 80000 (KM1 m0) [.ref m0] (fun v t w => v = some (.int r) ∧ KM1 m0 t w) 0 0)
    (hc : cells + mx + mm ≤ 601024) (hs : slots + sx + sm ≤ room_1.slots)
    (kk : ∀ (ls : Array Slot) (H : Heap) (locs : List Loc) (h : Nat → Int64), lv_has ls 8 [(4, .int (nI j)), (3, .ref o), (2, .ref m0), (1, .ref x0), (0, .ref b)] → wl_I D s H locs x0 m0 o cO h KX1 KM1 → W p l e room_1 s m #[Value.ref b] below meth c H locs (cells + mx + mm) (slots + sx + sm) Q (F0 m 880 ls [])) : W p l e room_1 s m #[Value.ref b] below meth c H locs cells slots Q (F0 m 366 ls []) := by
  have C9 := C0
  obtain ⟨hx, hb, hr, hml, hown, hts, hX0, hbl, hlocks, hgv⟩ := C0
  refine lv_aload_n hx hb lwd_366 rfl (lv_at hl 3 rfl) ?_
  refine wl_S0 (rest := []) C9 hl.1 hCF hE I hX (List.mem_of_getElem? (i := 2147) rfl) (by decide +kernel) (List.mem_of_getElem? (i := 2145) (by decide +kernel)) (List.mem_of_getElem? (i := 2146) (by decide +kernel)) (List.mem_of_getElem? (i := 393) (by decide +kernel)) ⟨by decide, by decide, by decide +kernel⟩ (Nat.le_of_ble_eq_true rfl) (by omega) (by omega) (Nat.le_of_ble_eq_true rfl) lwd_367 (fun H locs I => ?_)
  refine lv_istore (lv' := [(5, .int r), (4, .int (nI j)), (3, .ref o), (2, .ref m0), (1, .ref x0), (0, .ref b)]) hx hb lwd_370 hl (by decide) rfl (fun ls hl => ?_)
  refine lv_aload_n hx hb lwd_372 rfl (lv_at hl 3 rfl) ?_
  refine wl_R (As := []) (rest := []) C9 hl.1 hCF hE I hRM hM (List.mem_of_getElem? (i := 4021) rfl) (by decide +kernel) (List.mem_of_getElem? (i := 423) (by decide +kernel)) (List.mem_of_getElem? (i := 4018) (by decide +kernel)) (List.mem_of_getElem? (i := 4019) (by decide +kernel)) (List.mem_of_getElem? (i := 4020) (by decide +kernel)) ⟨by decide, by decide, by decide +kernel⟩ rfl (Nat.le_of_ble_eq_true rfl) (by omega) (by omega) (Nat.le_of_ble_eq_true rfl) lwd_373 (fun H locs I => ?_)
  refine lv_aload_n hx hb lwd_376 rfl (lv_at hl 3 rfl) ?_
  refine wl_R (As := []) (rest := []) C9 hl.1 hCF hE I hRM1 hT (List.mem_of_getElem? (i := 3553) rfl) (by decide +kernel) (List.mem_of_getElem? (i := 423) (by decide +kernel)) (List.mem_of_getElem? (i := 3550) (by decide +kernel)) (List.mem_of_getElem? (i := 3551) (by decide +kernel)) (List.mem_of_getElem? (i := 3552) (by decide +kernel)) ⟨by decide, by decide, by decide +kernel⟩ rfl (Nat.le_of_ble_eq_true rfl) (by omega) (by omega) (Nat.le_of_ble_eq_true rfl) lwd_377 (fun H locs I => ?_)
  refine lv_iload hx hb lwd_380 (lv_at hl 0 rfl) ?_
  have hl0 : lv_has ls 8 [(4, .int (nI j)), (3, .ref o), (2, .ref m0), (1, .ref x0), (0, .ref b)] := lv_sub hl [1, 2, 3, 4, 5] rfl
  refine lv_icmp_eq (tgt := 387) hx hb lwd_382 (by decide) (fun _ => ?_) (fun z => absurd rfl z)
  refine lv_goto (tgt := 880) hx hb lwd_387 (by decide) ?_
  exact kk ls H locs h hl0 I
set_option maxHeartbeats 4000000 in
set_option maxRecDepth 100000 in
theorem wl_c6 {p : Program} {l : Launch} {e : Env} {s : State} {m : MethodId} {below : List Frame} {meth : Method} {c : Code} {b L : Nat} {xs : Nat → Int32} {H : Heap} {locs : List Loc} {cells slots : Nat} {ls : Array Slot} {Q : State → Prop} {D : va_G} {ka : ev_KA} {x0 m0 o : Nat} {cO : ClassId} {h : Nat → Int64} {KX KM KX1 KM1 : Nat → wl_Y → va_W → Prop} {j : Nat} {r : Int32} {a : Int64} {a2 : Int32} {mx sx mm sm : Nat} (C0 : lw_At p s m meth c b L xs) (hCF : ev_CF al_dfl al_tyf ka (fun q : Nat => s.heap.size ≤ q) s) (hE : wl_EE (fun q : Nat => s.heap.size ≤ q) s) (hL : L ≤ 2048) (hj : j + 3 < L) (hl : lv_has ls 8 [(4, .int (nI j)), (3, .ref o), (2, .ref m0), (1, .ref x0), (0, .ref b)]) (I : wl_I D s H locs x0 m0 o cO h KX KM) (hRM : wl_Rc 0 KM) (hRM1 : wl_Rc 0 KM1)
    (hX : wl_Wc l D ka ly_L_run (lw_wH ly_L_run method_7_code 4 (some .int) [(0, 9, 12, 28), (0, 9, 15, 13)]) x0 KX KX1 [.int (xs (j + 1))] r a mx sx)
    (hM : wl_M l D ka ly_X12_run (lw_w ly_X12_run prog_14_method_240_code 2 (some .int)) 1900 80000 (KM m0) [.ref m0, .int (xs (j + 1))] (fun v t w => v = some (.int a2) ∧ KM1 m0 t w) mm sm)
    (hT : wl_M l D ka ly_X12_thrown (lw_w ly_X12_thrown prog_14_method_2_code 1 (some .int)) 1900 80000 (KM1 m0) [.ref m0] (fun v t w => v = some (.int r) ∧ KM1 m0 t w) 0 0) (hab : r = 0 → a = a2.toInt64)
    (hc : cells + mx + mm ≤ 601024) (hs : slots + sx + sm ≤ room_1.slots)
    (kk : ∀ (ls : Array Slot) (H : Heap) (locs : List Loc) (h : Nat → Int64), lv_has ls 8 [(4, .int (nI j)), (3, .ref o), (2, .ref m0), (1, .ref x0), (0, .ref b)] → wl_I D s H locs x0 m0 o cO h KX1 KM1 → W p l e room_1 s m #[Value.ref b] below meth c H locs (cells + mx + mm) (slots + sx + sm) Q (F0 m 880 ls [])) : W p l e room_1 s m #[Value.ref b] below meth c H locs cells slots Q (F0 m 390 ls []) := by
  have C9 := C0
  obtain ⟨hx, hb, hr, hml, hown, hts, hX0, hbl, hlocks, hgv⟩ := C0
  refine lv_aload_n hx hb lwd_390 rfl (lv_at hl 3 rfl) ?_
  refine wl_arg (k := 1) C9 (wl_I_S I) (by omega) hL hl 4 rfl 0 rfl lwd_391 lwd_392 lwd_394 (by decide) lwd_395 lwd_396 ?_
  refine lv_aload_n hx hb lwd_397 rfl (lv_at hl 1 rfl) ?_
  refine wl_S (n := 3) (As := [.int (xs (j + 1))]) (rest := []) C9 hl.1 hCF hE I hX (List.mem_of_getElem? (i := 2170) rfl) (by decide +kernel) (List.mem_of_getElem? (i := 2168) (by decide +kernel)) (List.mem_of_getElem? (i := 2169) (by decide +kernel)) (List.mem_of_getElem? (i := 393) (by decide +kernel)) ⟨by decide, by decide, by decide +kernel⟩ rfl (Nat.le_of_ble_eq_true rfl) (by omega) (by omega) (Nat.le_of_ble_eq_true rfl) lwd_398 rfl (fun H locs h hr0 I => ?_)
  refine lv_istore (lv' := [(5, .int r), (4, .int (nI j)), (3, .ref o), (2, .ref m0), (1, .ref x0), (0, .ref b)]) hx hb lwd_401 hl (by decide) rfl (fun ls hl => ?_)
  refine lv_aload_n hx hb lwd_403 rfl (lv_at hl 3 rfl) ?_
  refine wl_arg (k := 1) C9 (wl_I_S I) (by omega) hL hl 5 rfl 1 rfl lwd_404 lwd_405 lwd_407 (by decide) lwd_408 lwd_409 ?_
  refine wl_R (n := 1) (As := [.int (xs (j + 1))]) (rest := []) C9 hl.1 hCF hE I hRM hM (List.mem_of_getElem? (i := 4025) rfl) (by decide +kernel) (List.mem_of_getElem? (i := 423) (by decide +kernel)) (List.mem_of_getElem? (i := 4022) (by decide +kernel)) (List.mem_of_getElem? (i := 4023) (by decide +kernel)) (List.mem_of_getElem? (i := 4024) (by decide +kernel)) ⟨by decide, by decide, by decide +kernel⟩ rfl (Nat.le_of_ble_eq_true rfl) (by omega) (by omega) (Nat.le_of_ble_eq_true rfl) lwd_410 (fun H locs I => ?_)
  refine lv_istore (lv' := [(6, .int a2), (5, .int r), (4, .int (nI j)), (3, .ref o), (2, .ref m0), (1, .ref x0), (0, .ref b)]) hx hb lwd_413 hl (by decide) rfl (fun ls hl => ?_)
  refine lv_aload_n hx hb lwd_415 rfl (lv_at hl 4 rfl) ?_
  refine wl_R (As := []) (rest := []) C9 hl.1 hCF hE I hRM1 hT (List.mem_of_getElem? (i := 3553) rfl) (by decide +kernel) (List.mem_of_getElem? (i := 423) (by decide +kernel)) (List.mem_of_getElem? (i := 3550) (by decide +kernel)) (List.mem_of_getElem? (i := 3551) (by decide +kernel)) (List.mem_of_getElem? (i := 3552) (by decide +kernel)) ⟨by decide, by decide, by decide +kernel⟩ rfl (Nat.le_of_ble_eq_true rfl) (by omega) (by omega) (Nat.le_of_ble_eq_true rfl) lwd_416 (fun H locs I => ?_)
  refine lv_iload hx hb lwd_419 (lv_at hl 1 rfl) ?_
  refine lv_icmp_eq (tgt := 426) hx hb lwd_421 (by decide) (fun _ => ?_) (fun z => absurd rfl z)
  refine lv_iload hx hb lwd_426 (lv_at hl 1 rfl) ?_
  have hl0 : lv_has ls 8 [(4, .int (nI j)), (3, .ref o), (2, .ref m0), (1, .ref x0), (0, .ref b)] := lv_sub hl [2, 3, 4, 5, 6] rfl
  refine lv_if_ne (tgt := 443) hx hb lwd_428 (by decide) (fun _ => lv_goto (tgt := 880) hx hb lwd_443 (by decide) (kk ls H locs h hl0 I)) (fun hz => ?_)
  obtain ⟨tX, tM, wX, wM, k1, k2, k3, k4, k5, k6, k7, k8⟩ := I
  refine lv_aload_n hx hb lwd_431 rfl (lv_at hl 3 rfl) ?_
  refine lv_iconst (v := 0) hx hb lwd_432 (by decide) ?_
  refine va_lald hx hb k7 k3 0 0 rfl rfl (show vp_in (nI 0) 1 from vp_in_nI (by decide) (by decide)) lwd_433 ?_
  refine lv_topl (fun vo evo => ?_)
  have evo : vo = h 0 := evo
  obtain rfl : vo = a2.toInt64 := evo.trans ((hr0 hz).trans (hab hz))
  refine lv_iload hx hb lwd_434 (lv_at hl 0 rfl) ?_
  refine lv_i2l (v := a2.toInt64) hx hb lwd_436 rfl ?_
  refine W.lcmp hx hb lwd_437 ?_
  rw [wl_cmp0]
  refine lv_if_eq (tgt := 443) hx hb lwd_438 (by decide) (fun _ => ?_) (fun z => absurd rfl z)
  refine lv_goto (tgt := 880) hx hb lwd_443 (by decide) ?_
  exact kk ls H locs h hl0 ⟨tX, tM, wX, wM, k1, k2, k3, k4, k5, k6, k7, k8⟩
set_option maxHeartbeats 4000000 in
set_option maxRecDepth 100000 in
theorem wl_c7 {p : Program} {l : Launch} {e : Env} {s : State} {m : MethodId} {below : List Frame} {meth : Method} {c : Code} {b L : Nat} {xs : Nat → Int32} {H : Heap} {locs : List Loc} {cells slots : Nat} {ls : Array Slot} {Q : State → Prop} {D : va_G} {ka : ev_KA} {x0 m0 o : Nat} {cO : ClassId} {h : Nat → Int64} {KX KM KX1 KM1 : Nat → wl_Y → va_W → Prop} {j : Nat} {a : Int64} {mx sx mm sm : Nat} (C0 : lw_At p s m meth c b L xs) (hCF : ev_CF al_dfl al_tyf ka (fun q : Nat => s.heap.size ≤ q) s) (hE : wl_EE (fun q : Nat => s.heap.size ≤ q) s) (hL : L ≤ 2048) (hj : j + 3 < L) (hl : lv_has ls 8 [(4, .int (nI j)), (3, .ref o), (2, .ref m0), (1, .ref x0), (0, .ref b)]) (I : wl_I D s H locs x0 m0 o cO h KX KM) (hRX : wl_Rc 3 KX) (hRM : wl_Rc 0 KM)
    (hX : wl_M l D ka ly_X11_steps (lw_w ly_X11_steps prog_1_method_9_code 1 (some .long)) 1900 80000 (KX x0) [.ref x0] (fun v t w => v = some (.long a) ∧ KX1 x0 t w) mx sx) (hM : wl_M l D ka ly_X12_steps (lw_w ly_X12_steps prog_14_method_241_code 1 (some .long)) 1900 80000 (KM m0) [.ref m0] (fun v t w => v = some (.long a) ∧ KM1 m0 t w) mm sm)
    (hc : cells + mx + mm ≤ 601024) (hs : slots + sx + sm ≤ room_1.slots)
    (kk : ∀ (ls : Array Slot) (H : Heap) (locs : List Loc) (h : Nat → Int64), lv_has ls 8 [(4, .int (nI j)), (3, .ref o), (2, .ref m0), (1, .ref x0), (0, .ref b)] → wl_I D s H locs x0 m0 o cO h KX1 KM1 → W p l e room_1 s m #[Value.ref b] below meth c H locs (cells + mx + mm) (slots + sx + sm) Q (F0 m 880 ls [])) : W p l e room_1 s m #[Value.ref b] below meth c H locs cells slots Q (F0 m 446 ls []) := by
  have C9 := C0
  obtain ⟨hx, hb, hr, hml, hown, hts, hX0, hbl, hlocks, hgv⟩ := C0
  refine lv_aload_n hx hb lwd_446 rfl (lv_at hl 3 rfl) ?_
  refine wl_X (As := []) C9 hl.1 hCF hE I hRX hX (List.mem_of_getElem? (i := 2079) rfl) (by decide +kernel) (List.mem_of_getElem? (i := 394) (by decide +kernel)) (List.mem_of_getElem? (i := 2076) (by decide +kernel)) (List.mem_of_getElem? (i := 2077) (by decide +kernel)) (List.mem_of_getElem? (i := 2078) (by decide +kernel)) ⟨by decide, by decide, by decide +kernel⟩ rfl (Nat.le_of_ble_eq_true rfl) (by omega) (by omega) (Nat.le_of_ble_eq_true rfl) lwd_447 (fun H locs I => ?_)
  refine lv_aload_n hx hb lwd_450 rfl (lv_at hl 2 rfl) ?_
  refine wl_R (As := []) C9 hl.1 hCF hE I hRM hM (List.mem_of_getElem? (i := 4538) rfl) (by decide +kernel) (List.mem_of_getElem? (i := 423) (by decide +kernel)) (List.mem_of_getElem? (i := 4535) (by decide +kernel)) (List.mem_of_getElem? (i := 4536) (by decide +kernel)) (List.mem_of_getElem? (i := 4537) (by decide +kernel)) ⟨by decide, by decide, by decide +kernel⟩ rfl (Nat.le_of_ble_eq_true rfl) (by omega) (by omega) (Nat.le_of_ble_eq_true rfl) lwd_451 (fun H locs I => ?_)
  refine W.lcmp hx hb lwd_454 ?_
  rw [wl_cmp0]
  refine lv_if_eq (tgt := 880) hx hb lwd_455 (by decide) (fun _ => ?_) (fun z => absurd rfl z)
  exact kk ls H locs h hl I
set_option maxHeartbeats 4000000 in
set_option maxRecDepth 100000 in
theorem wl_c8 {p : Program} {l : Launch} {e : Env} {s : State} {m : MethodId} {below : List Frame} {meth : Method} {c : Code} {b L : Nat} {xs : Nat → Int32} {H : Heap} {locs : List Loc} {cells slots : Nat} {ls : Array Slot} {Q : State → Prop} {D : va_G} {ka : ev_KA} {x0 m0 o : Nat} {cO : ClassId} {h : Nat → Int64} {KX KM KX1 KM1 : Nat → wl_Y → va_W → Prop} {j : Nat} {a : Int32} {mx sx mm sm : Nat} (C0 : lw_At p s m meth c b L xs) (hCF : ev_CF al_dfl al_tyf ka (fun q : Nat => s.heap.size ≤ q) s) (hE : wl_EE (fun q : Nat => s.heap.size ≤ q) s) (hL : L ≤ 2048) (hj : j + 3 < L) (hl : lv_has ls 8 [(4, .int (nI j)), (3, .ref o), (2, .ref m0), (1, .ref x0), (0, .ref b)]) (I : wl_I D s H locs x0 m0 o cO h KX KM) (hRX : wl_Rc 3 KX) (hRM : wl_Rc 0 KM)
    (hX : wl_M l D ka ly_X11_results (lw_w ly_X11_results prog_1_method_10_code 1 (some .int)) 1900 80000 (KX x0) [.ref x0] (fun v t w => v = some (.int a) ∧ KX1 x0 t w) mx sx) (hM : wl_M l D ka ly_X12_results (lw_w ly_X12_results prog_14_method_243_code 1 (some .int)) 1900 80000 (KM m0) [.ref m0] (fun v t w => v = some (.int a) ∧ KM1 m0 t w) mm sm)
    (hc : cells + mx + mm ≤ 601024) (hs : slots + sx + sm ≤ room_1.slots)
    (kk : ∀ (ls : Array Slot) (H : Heap) (locs : List Loc) (h : Nat → Int64), lv_has ls 8 [(4, .int (nI j)), (3, .ref o), (2, .ref m0), (1, .ref x0), (0, .ref b)] → wl_I D s H locs x0 m0 o cO h KX1 KM1 → W p l e room_1 s m #[Value.ref b] below meth c H locs (cells + mx + mm) (slots + sx + sm) Q (F0 m 880 ls [])) : W p l e room_1 s m #[Value.ref b] below meth c H locs cells slots Q (F0 m 460 ls []) := by
  have C9 := C0
  obtain ⟨hx, hb, hr, hml, hown, hts, hX0, hbl, hlocks, hgv⟩ := C0
  refine lv_aload_n hx hb lwd_460 rfl (lv_at hl 3 rfl) ?_
  refine wl_X (As := []) C9 hl.1 hCF hE I hRX hX (List.mem_of_getElem? (i := 2083) rfl) (by decide +kernel) (List.mem_of_getElem? (i := 394) (by decide +kernel)) (List.mem_of_getElem? (i := 2080) (by decide +kernel)) (List.mem_of_getElem? (i := 2081) (by decide +kernel)) (List.mem_of_getElem? (i := 2082) (by decide +kernel)) ⟨by decide, by decide, by decide +kernel⟩ rfl (Nat.le_of_ble_eq_true rfl) (by omega) (by omega) (Nat.le_of_ble_eq_true rfl) lwd_461 (fun H locs I => ?_)
  refine lv_aload_n hx hb lwd_464 rfl (lv_at hl 2 rfl) ?_
  refine wl_R (As := []) C9 hl.1 hCF hE I hRM hM (List.mem_of_getElem? (i := 4542) rfl) (by decide +kernel) (List.mem_of_getElem? (i := 423) (by decide +kernel)) (List.mem_of_getElem? (i := 4539) (by decide +kernel)) (List.mem_of_getElem? (i := 4540) (by decide +kernel)) (List.mem_of_getElem? (i := 4541) (by decide +kernel)) ⟨by decide, by decide, by decide +kernel⟩ rfl (Nat.le_of_ble_eq_true rfl) (by omega) (by omega) (Nat.le_of_ble_eq_true rfl) lwd_465 (fun H locs I => ?_)
  refine lv_icmp_eq (tgt := 880) hx hb lwd_468 (by decide) (fun _ => ?_) (fun z => absurd rfl z)
  exact kk ls H locs h hl I
set_option maxHeartbeats 4000000 in
set_option maxRecDepth 100000 in
theorem wl_c9 {p : Program} {l : Launch} {e : Env} {s : State} {m : MethodId} {below : List Frame} {meth : Method} {c : Code} {b L : Nat} {xs : Nat → Int32} {H : Heap} {locs : List Loc} {cells slots : Nat} {ls : Array Slot} {Q : State → Prop} {D : va_G} {ka : ev_KA} {x0 m0 o : Nat} {cO : ClassId} {h : Nat → Int64} {KX KM KX1 KM1 : Nat → wl_Y → va_W → Prop} {j : Nat} {r : Int32} {a : Int64} {a2 : Int64} {mx sx mm sm : Nat} (C0 : lw_At p s m meth c b L xs) (hCF : ev_CF al_dfl al_tyf ka (fun q : Nat => s.heap.size ≤ q) s) (hE : wl_EE (fun q : Nat => s.heap.size ≤ q) s) (hL : L ≤ 2048) (hj : j + 3 < L) (hl : lv_has ls 8 [(4, .int (nI j)), (3, .ref o), (2, .ref m0), (1, .ref x0), (0, .ref b)]) (I : wl_I D s H locs x0 m0 o cO h KX KM) (hRM : wl_Rc 0 KM) (hRM1 : wl_Rc 0 KM1)
    (hX : wl_Wc l D ka ly_L_result (lw_wH ly_L_result method_8_code 5 (some .int) [(0, 9, 12, 19)]) x0 KX KX1 [.int (xs (j + 1)), .int (xs (j + 2))] r a mx sx)
    (hM : wl_M l D ka ly_X12_result (lw_w ly_X12_result prog_14_method_246_code 3 (some .long)) 1900 80000 (KM m0) [.ref m0, .int (xs (j + 1)), .int (xs (j + 2))] (fun v t w => v = some (.long a2) ∧ KM1 m0 t w) mm sm)
    (hT : wl_M l D ka ly_X12_thrown (lw_w ly_X12_thrown prog_14_method_2_code 1 (some .int)) 1900 80000 (KM1 m0) [.ref m0] (fun v t w => v = some (.int r) ∧ KM1 m0 t w) 0 0) (hab : r = 0 → a = a2)
    (hc : cells + mx + mm ≤ 601024) (hs : slots + sx + sm ≤ room_1.slots)
    (kk : ∀ (ls : Array Slot) (H : Heap) (locs : List Loc) (h : Nat → Int64), lv_has ls 8 [(4, .int (nI j)), (3, .ref o), (2, .ref m0), (1, .ref x0), (0, .ref b)] → wl_I D s H locs x0 m0 o cO h KX1 KM1 → W p l e room_1 s m #[Value.ref b] below meth c H locs (cells + mx + mm) (slots + sx + sm) Q (F0 m 880 ls [])) : W p l e room_1 s m #[Value.ref b] below meth c H locs cells slots Q (F0 m 473 ls []) := by
  have C9 := C0
  obtain ⟨hx, hb, hr, hml, hown, hts, hX0, hbl, hlocks, hgv⟩ := C0
  refine lv_aload_n hx hb lwd_473 rfl (lv_at hl 3 rfl) ?_
  refine wl_arg (k := 1) C9 (wl_I_S I) (by omega) hL hl 4 rfl 0 rfl lwd_474 lwd_475 lwd_477 (by decide) lwd_478 lwd_479 ?_
  refine wl_arg (k := 2) C9 (wl_I_S I) (by omega) hL hl 4 rfl 0 rfl lwd_480 lwd_481 lwd_483 (by decide) lwd_484 lwd_485 ?_
  refine lv_aload_n hx hb lwd_486 rfl (lv_at hl 1 rfl) ?_
  refine wl_S (n := 4) (As := [.int (xs (j + 1)), .int (xs (j + 2))]) (rest := []) C9 hl.1 hCF hE I hX (List.mem_of_getElem? (i := 2903) rfl) (by decide +kernel) (List.mem_of_getElem? (i := 2901) (by decide +kernel)) (List.mem_of_getElem? (i := 2902) (by decide +kernel)) (List.mem_of_getElem? (i := 393) (by decide +kernel)) ⟨by decide, by decide, by decide +kernel⟩ rfl (Nat.le_of_ble_eq_true rfl) (by omega) (by omega) (Nat.le_of_ble_eq_true rfl) lwd_487 rfl (fun H locs h hr0 I => ?_)
  refine lv_istore (lv' := [(5, .int r), (4, .int (nI j)), (3, .ref o), (2, .ref m0), (1, .ref x0), (0, .ref b)]) hx hb lwd_490 hl (by decide) rfl (fun ls hl => ?_)
  refine lv_aload_n hx hb lwd_492 rfl (lv_at hl 3 rfl) ?_
  refine wl_arg (k := 1) C9 (wl_I_S I) (by omega) hL hl 5 rfl 1 rfl lwd_493 lwd_494 lwd_496 (by decide) lwd_497 lwd_498 ?_
  refine wl_arg (k := 2) C9 (wl_I_S I) (by omega) hL hl 5 rfl 1 rfl lwd_499 lwd_500 lwd_502 (by decide) lwd_503 lwd_504 ?_
  refine wl_R (n := 2) (As := [.int (xs (j + 1)), .int (xs (j + 2))]) (rest := []) C9 hl.1 hCF hE I hRM hM (List.mem_of_getElem? (i := 4550) rfl) (by decide +kernel) (List.mem_of_getElem? (i := 423) (by decide +kernel)) (List.mem_of_getElem? (i := 4547) (by decide +kernel)) (List.mem_of_getElem? (i := 4548) (by decide +kernel)) (List.mem_of_getElem? (i := 4549) (by decide +kernel)) ⟨by decide, by decide, by decide +kernel⟩ rfl (Nat.le_of_ble_eq_true rfl) (by omega) (by omega) (Nat.le_of_ble_eq_true rfl) lwd_505 (fun H locs I => ?_)
  refine lv_lstore (lv' := [(6, .long a2), (5, .int r), (4, .int (nI j)), (3, .ref o), (2, .ref m0), (1, .ref x0), (0, .ref b)]) hx hb lwd_508 hl (by decide) rfl (fun ls hl => ?_)
  refine lv_aload_n hx hb lwd_510 rfl (lv_at hl 4 rfl) ?_
  refine wl_R (As := []) (rest := []) C9 hl.1 hCF hE I hRM1 hT (List.mem_of_getElem? (i := 3553) rfl) (by decide +kernel) (List.mem_of_getElem? (i := 423) (by decide +kernel)) (List.mem_of_getElem? (i := 3550) (by decide +kernel)) (List.mem_of_getElem? (i := 3551) (by decide +kernel)) (List.mem_of_getElem? (i := 3552) (by decide +kernel)) ⟨by decide, by decide, by decide +kernel⟩ rfl (Nat.le_of_ble_eq_true rfl) (by omega) (by omega) (Nat.le_of_ble_eq_true rfl) lwd_511 (fun H locs I => ?_)
  refine lv_iload hx hb lwd_514 (lv_at hl 1 rfl) ?_
  refine lv_icmp_eq (tgt := 521) hx hb lwd_516 (by decide) (fun _ => ?_) (fun z => absurd rfl z)
  refine lv_iload hx hb lwd_521 (lv_at hl 1 rfl) ?_
  have hl0 : lv_has ls 8 [(4, .int (nI j)), (3, .ref o), (2, .ref m0), (1, .ref x0), (0, .ref b)] := lv_sub hl [2, 3, 4, 5, 6] rfl
  refine lv_if_ne (tgt := 537) hx hb lwd_523 (by decide) (fun _ => lv_goto (tgt := 880) hx hb lwd_537 (by decide) (kk ls H locs h hl0 I)) (fun hz => ?_)
  obtain ⟨tX, tM, wX, wM, k1, k2, k3, k4, k5, k6, k7, k8⟩ := I
  refine lv_aload_n hx hb lwd_526 rfl (lv_at hl 3 rfl) ?_
  refine lv_iconst (v := 0) hx hb lwd_527 (by decide) ?_
  refine va_lald hx hb k7 k3 0 0 rfl rfl (show vp_in (nI 0) 1 from vp_in_nI (by decide) (by decide)) lwd_528 ?_
  refine lv_topl (fun vo evo => ?_)
  have evo : vo = h 0 := evo
  obtain rfl : vo = a2 := evo.trans ((hr0 hz).trans (hab hz))
  refine lv_lload hx hb lwd_529 (lv_at hl 0 rfl) ?_
  refine W.lcmp hx hb lwd_531 ?_
  rw [wl_cmp0]
  refine lv_if_eq (tgt := 537) hx hb lwd_532 (by decide) (fun _ => ?_) (fun z => absurd rfl z)
  refine lv_goto (tgt := 880) hx hb lwd_537 (by decide) ?_
  exact kk ls H locs h hl0 ⟨tX, tM, wX, wM, k1, k2, k3, k4, k5, k6, k7, k8⟩
set_option maxHeartbeats 4000000 in
set_option maxRecDepth 100000 in
theorem wl_c10 {p : Program} {l : Launch} {e : Env} {s : State} {m : MethodId} {below : List Frame} {meth : Method} {c : Code} {b L : Nat} {xs : Nat → Int32} {H : Heap} {locs : List Loc} {cells slots : Nat} {ls : Array Slot} {Q : State → Prop} {D : va_G} {ka : ev_KA} {x0 m0 o : Nat} {cO : ClassId} {h : Nat → Int64} {KX KM KX1 KM1 : Nat → wl_Y → va_W → Prop} {j : Nat} {r : Int32} {a : Int64} {a2 : Int32} {mx sx mm sm : Nat} (C0 : lw_At p s m meth c b L xs) (hCF : ev_CF al_dfl al_tyf ka (fun q : Nat => s.heap.size ≤ q) s) (hE : wl_EE (fun q : Nat => s.heap.size ≤ q) s) (hL : L ≤ 2048) (hj : j + 3 < L) (hl : lv_has ls 8 [(4, .int (nI j)), (3, .ref o), (2, .ref m0), (1, .ref x0), (0, .ref b)]) (I : wl_I D s H locs x0 m0 o cO h KX KM) (hRM : wl_Rc 0 KM) (hRM1 : wl_Rc 0 KM1)
    (hX : wl_Wc l D ka ly_L_resultByte (lw_wH ly_L_resultByte method_9_code 5 (some .int) [(0, 10, 13, 19)]) x0 KX KX1 [.int (xs (j + 1)), .int (xs (j + 2))] r a mx sx)
    (hM : wl_M l D ka ly_X12_resultByte (lw_w ly_X12_resultByte prog_14_method_247_code 3 (some .int)) 1900 80000 (KM m0) [.ref m0, .int (xs (j + 1)), .int (xs (j + 2))] (fun v t w => v = some (.int a2) ∧ KM1 m0 t w) mm sm)
    (hT : wl_M l D ka ly_X12_thrown (lw_w ly_X12_thrown prog_14_method_2_code 1 (some .int)) 1900 80000 (KM1 m0) [.ref m0] (fun v t w => v = some (.int r) ∧ KM1 m0 t w) 0 0) (hab : r = 0 → a = a2.toInt64)
    (hc : cells + mx + mm ≤ 601024) (hs : slots + sx + sm ≤ room_1.slots)
    (kk : ∀ (ls : Array Slot) (H : Heap) (locs : List Loc) (h : Nat → Int64), lv_has ls 8 [(4, .int (nI j)), (3, .ref o), (2, .ref m0), (1, .ref x0), (0, .ref b)] → wl_I D s H locs x0 m0 o cO h KX1 KM1 → W p l e room_1 s m #[Value.ref b] below meth c H locs (cells + mx + mm) (slots + sx + sm) Q (F0 m 880 ls [])) : W p l e room_1 s m #[Value.ref b] below meth c H locs cells slots Q (F0 m 540 ls []) := by
  have C9 := C0
  obtain ⟨hx, hb, hr, hml, hown, hts, hX0, hbl, hlocks, hgv⟩ := C0
  refine lv_aload_n hx hb lwd_540 rfl (lv_at hl 3 rfl) ?_
  refine wl_arg (k := 1) C9 (wl_I_S I) (by omega) hL hl 4 rfl 0 rfl lwd_541 lwd_542 lwd_544 (by decide) lwd_545 lwd_546 ?_
  refine wl_arg (k := 2) C9 (wl_I_S I) (by omega) hL hl 4 rfl 0 rfl lwd_547 lwd_548 lwd_550 (by decide) lwd_551 lwd_552 ?_
  refine lv_aload_n hx hb lwd_553 rfl (lv_at hl 1 rfl) ?_
  refine wl_S (n := 4) (As := [.int (xs (j + 1)), .int (xs (j + 2))]) (rest := []) C9 hl.1 hCF hE I hX (List.mem_of_getElem? (i := 2917) rfl) (by decide +kernel) (List.mem_of_getElem? (i := 2915) (by decide +kernel)) (List.mem_of_getElem? (i := 2916) (by decide +kernel)) (List.mem_of_getElem? (i := 393) (by decide +kernel)) ⟨by decide, by decide, by decide +kernel⟩ rfl (Nat.le_of_ble_eq_true rfl) (by omega) (by omega) (Nat.le_of_ble_eq_true rfl) lwd_554 rfl (fun H locs h hr0 I => ?_)
  refine lv_istore (lv' := [(5, .int r), (4, .int (nI j)), (3, .ref o), (2, .ref m0), (1, .ref x0), (0, .ref b)]) hx hb lwd_557 hl (by decide) rfl (fun ls hl => ?_)
  refine lv_aload_n hx hb lwd_559 rfl (lv_at hl 3 rfl) ?_
  refine wl_arg (k := 1) C9 (wl_I_S I) (by omega) hL hl 5 rfl 1 rfl lwd_560 lwd_561 lwd_563 (by decide) lwd_564 lwd_565 ?_
  refine wl_arg (k := 2) C9 (wl_I_S I) (by omega) hL hl 5 rfl 1 rfl lwd_566 lwd_567 lwd_569 (by decide) lwd_570 lwd_571 ?_
  refine wl_R (n := 2) (As := [.int (xs (j + 1)), .int (xs (j + 2))]) (rest := []) C9 hl.1 hCF hE I hRM hM (List.mem_of_getElem? (i := 4561) rfl) (by decide +kernel) (List.mem_of_getElem? (i := 423) (by decide +kernel)) (List.mem_of_getElem? (i := 4558) (by decide +kernel)) (List.mem_of_getElem? (i := 4559) (by decide +kernel)) (List.mem_of_getElem? (i := 4560) (by decide +kernel)) ⟨by decide, by decide, by decide +kernel⟩ rfl (Nat.le_of_ble_eq_true rfl) (by omega) (by omega) (Nat.le_of_ble_eq_true rfl) lwd_572 (fun H locs I => ?_)
  refine lv_istore (lv' := [(6, .int a2), (5, .int r), (4, .int (nI j)), (3, .ref o), (2, .ref m0), (1, .ref x0), (0, .ref b)]) hx hb lwd_575 hl (by decide) rfl (fun ls hl => ?_)
  refine lv_aload_n hx hb lwd_577 rfl (lv_at hl 4 rfl) ?_
  refine wl_R (As := []) (rest := []) C9 hl.1 hCF hE I hRM1 hT (List.mem_of_getElem? (i := 3553) rfl) (by decide +kernel) (List.mem_of_getElem? (i := 423) (by decide +kernel)) (List.mem_of_getElem? (i := 3550) (by decide +kernel)) (List.mem_of_getElem? (i := 3551) (by decide +kernel)) (List.mem_of_getElem? (i := 3552) (by decide +kernel)) ⟨by decide, by decide, by decide +kernel⟩ rfl (Nat.le_of_ble_eq_true rfl) (by omega) (by omega) (Nat.le_of_ble_eq_true rfl) lwd_578 (fun H locs I => ?_)
  refine lv_iload hx hb lwd_581 (lv_at hl 1 rfl) ?_
  refine lv_icmp_eq (tgt := 588) hx hb lwd_583 (by decide) (fun _ => ?_) (fun z => absurd rfl z)
  refine lv_iload hx hb lwd_588 (lv_at hl 1 rfl) ?_
  have hl0 : lv_has ls 8 [(4, .int (nI j)), (3, .ref o), (2, .ref m0), (1, .ref x0), (0, .ref b)] := lv_sub hl [2, 3, 4, 5, 6] rfl
  refine lv_if_ne (tgt := 605) hx hb lwd_590 (by decide) (fun _ => lv_goto (tgt := 880) hx hb lwd_605 (by decide) (kk ls H locs h hl0 I)) (fun hz => ?_)
  obtain ⟨tX, tM, wX, wM, k1, k2, k3, k4, k5, k6, k7, k8⟩ := I
  refine lv_aload_n hx hb lwd_593 rfl (lv_at hl 3 rfl) ?_
  refine lv_iconst (v := 0) hx hb lwd_594 (by decide) ?_
  refine va_lald hx hb k7 k3 0 0 rfl rfl (show vp_in (nI 0) 1 from vp_in_nI (by decide) (by decide)) lwd_595 ?_
  refine lv_topl (fun vo evo => ?_)
  have evo : vo = h 0 := evo
  obtain rfl : vo = a2.toInt64 := evo.trans ((hr0 hz).trans (hab hz))
  refine lv_iload hx hb lwd_596 (lv_at hl 0 rfl) ?_
  refine lv_i2l (v := a2.toInt64) hx hb lwd_598 rfl ?_
  refine W.lcmp hx hb lwd_599 ?_
  rw [wl_cmp0]
  refine lv_if_eq (tgt := 605) hx hb lwd_600 (by decide) (fun _ => ?_) (fun z => absurd rfl z)
  refine lv_goto (tgt := 880) hx hb lwd_605 (by decide) ?_
  exact kk ls H locs h hl0 ⟨tX, tM, wX, wM, k1, k2, k3, k4, k5, k6, k7, k8⟩
set_option maxHeartbeats 4000000 in
set_option maxRecDepth 100000 in
theorem wl_c11 {p : Program} {l : Launch} {e : Env} {s : State} {m : MethodId} {below : List Frame} {meth : Method} {c : Code} {b L : Nat} {xs : Nat → Int32} {H : Heap} {locs : List Loc} {cells slots : Nat} {ls : Array Slot} {Q : State → Prop} {D : va_G} {ka : ev_KA} {x0 m0 o : Nat} {cO : ClassId} {h : Nat → Int64} {KX KM KX1 KM1 : Nat → wl_Y → va_W → Prop} {j : Nat} {a : Int32} {mx sx mm sm : Nat} (C0 : lw_At p s m meth c b L xs) (hCF : ev_CF al_dfl al_tyf ka (fun q : Nat => s.heap.size ≤ q) s) (hE : wl_EE (fun q : Nat => s.heap.size ≤ q) s) (hL : L ≤ 2048) (hj : j + 3 < L) (hl : lv_has ls 8 [(4, .int (nI j)), (3, .ref o), (2, .ref m0), (1, .ref x0), (0, .ref b)]) (I : wl_I D s H locs x0 m0 o cO h KX KM) (hRX : wl_Rc 3 KX) (hRM : wl_Rc 0 KM)
    (hX : wl_M l D ka ly_X11_outputs (lw_w ly_X11_outputs prog_1_method_13_code 1 (some .int)) 1900 80000 (KX x0) [.ref x0] (fun v t w => v = some (.int a) ∧ KX1 x0 t w) mx sx) (hM : wl_M l D ka ly_X12_outputs (lw_w ly_X12_outputs prog_14_method_248_code 1 (some .int)) 1900 80000 (KM m0) [.ref m0] (fun v t w => v = some (.int a) ∧ KM1 m0 t w) mm sm)
    (hc : cells + mx + mm ≤ 601024) (hs : slots + sx + sm ≤ room_1.slots)
    (kk : ∀ (ls : Array Slot) (H : Heap) (locs : List Loc) (h : Nat → Int64), lv_has ls 8 [(4, .int (nI j)), (3, .ref o), (2, .ref m0), (1, .ref x0), (0, .ref b)] → wl_I D s H locs x0 m0 o cO h KX1 KM1 → W p l e room_1 s m #[Value.ref b] below meth c H locs (cells + mx + mm) (slots + sx + sm) Q (F0 m 880 ls [])) : W p l e room_1 s m #[Value.ref b] below meth c H locs cells slots Q (F0 m 608 ls []) := by
  have C9 := C0
  obtain ⟨hx, hb, hr, hml, hown, hts, hX0, hbl, hlocks, hgv⟩ := C0
  refine lv_aload_n hx hb lwd_608 rfl (lv_at hl 3 rfl) ?_
  refine wl_X (As := []) C9 hl.1 hCF hE I hRX hX (List.mem_of_getElem? (i := 2091) rfl) (by decide +kernel) (List.mem_of_getElem? (i := 394) (by decide +kernel)) (List.mem_of_getElem? (i := 2088) (by decide +kernel)) (List.mem_of_getElem? (i := 2089) (by decide +kernel)) (List.mem_of_getElem? (i := 2090) (by decide +kernel)) ⟨by decide, by decide, by decide +kernel⟩ rfl (Nat.le_of_ble_eq_true rfl) (by omega) (by omega) (Nat.le_of_ble_eq_true rfl) lwd_609 (fun H locs I => ?_)
  refine lv_aload_n hx hb lwd_612 rfl (lv_at hl 2 rfl) ?_
  refine wl_R (As := []) C9 hl.1 hCF hE I hRM hM (List.mem_of_getElem? (i := 4565) rfl) (by decide +kernel) (List.mem_of_getElem? (i := 423) (by decide +kernel)) (List.mem_of_getElem? (i := 4562) (by decide +kernel)) (List.mem_of_getElem? (i := 4563) (by decide +kernel)) (List.mem_of_getElem? (i := 4564) (by decide +kernel)) ⟨by decide, by decide, by decide +kernel⟩ rfl (Nat.le_of_ble_eq_true rfl) (by omega) (by omega) (Nat.le_of_ble_eq_true rfl) lwd_613 (fun H locs I => ?_)
  refine lv_icmp_eq (tgt := 880) hx hb lwd_616 (by decide) (fun _ => ?_) (fun z => absurd rfl z)
  exact kk ls H locs h hl I
set_option maxHeartbeats 4000000 in
set_option maxRecDepth 100000 in
theorem wl_c12 {p : Program} {l : Launch} {e : Env} {s : State} {m : MethodId} {below : List Frame} {meth : Method} {c : Code} {b L : Nat} {xs : Nat → Int32} {H : Heap} {locs : List Loc} {cells slots : Nat} {ls : Array Slot} {Q : State → Prop} {D : va_G} {ka : ev_KA} {x0 m0 o : Nat} {cO : ClassId} {h : Nat → Int64} {KX KM KX1 KM1 : Nat → wl_Y → va_W → Prop} {j : Nat} {r : Int32} {a : Int64} {a2 : Int32} {mx sx mm sm : Nat} (C0 : lw_At p s m meth c b L xs) (hCF : ev_CF al_dfl al_tyf ka (fun q : Nat => s.heap.size ≤ q) s) (hE : wl_EE (fun q : Nat => s.heap.size ≤ q) s) (hL : L ≤ 2048) (hj : j + 3 < L) (hl : lv_has ls 8 [(4, .int (nI j)), (3, .ref o), (2, .ref m0), (1, .ref x0), (0, .ref b)]) (I : wl_I D s H locs x0 m0 o cO h KX KM) (hRM : wl_Rc 0 KM) (hRM1 : wl_Rc 0 KM1)
    (hX : wl_Wc l D ka ly_L_output (lw_wH ly_L_output method_10_code 4 (some .int) [(0, 9, 12, 19)]) x0 KX KX1 [.int (xs (j + 1))] r a mx sx)
    (hM : wl_M l D ka ly_X12_output (lw_w ly_X12_output prog_14_method_249_code 2 (some .int)) 1900 80000 (KM m0) [.ref m0, .int (xs (j + 1))] (fun v t w => v = some (.int a2) ∧ KM1 m0 t w) mm sm)
    (hT : wl_M l D ka ly_X12_thrown (lw_w ly_X12_thrown prog_14_method_2_code 1 (some .int)) 1900 80000 (KM1 m0) [.ref m0] (fun v t w => v = some (.int r) ∧ KM1 m0 t w) 0 0) (hab : r = 0 → a = a2.toInt64)
    (hc : cells + mx + mm ≤ 601024) (hs : slots + sx + sm ≤ room_1.slots)
    (kk : ∀ (ls : Array Slot) (H : Heap) (locs : List Loc) (h : Nat → Int64), lv_has ls 8 [(4, .int (nI j)), (3, .ref o), (2, .ref m0), (1, .ref x0), (0, .ref b)] → wl_I D s H locs x0 m0 o cO h KX1 KM1 → W p l e room_1 s m #[Value.ref b] below meth c H locs (cells + mx + mm) (slots + sx + sm) Q (F0 m 880 ls [])) : W p l e room_1 s m #[Value.ref b] below meth c H locs cells slots Q (F0 m 621 ls []) := by
  have C9 := C0
  obtain ⟨hx, hb, hr, hml, hown, hts, hX0, hbl, hlocks, hgv⟩ := C0
  refine lv_aload_n hx hb lwd_621 rfl (lv_at hl 3 rfl) ?_
  refine wl_arg (k := 1) C9 (wl_I_S I) (by omega) hL hl 4 rfl 0 rfl lwd_622 lwd_623 lwd_625 (by decide) lwd_626 lwd_627 ?_
  refine lv_aload_n hx hb lwd_628 rfl (lv_at hl 1 rfl) ?_
  refine wl_S (n := 3) (As := [.int (xs (j + 1))]) (rest := []) C9 hl.1 hCF hE I hX (List.mem_of_getElem? (i := 2925) rfl) (by decide +kernel) (List.mem_of_getElem? (i := 2923) (by decide +kernel)) (List.mem_of_getElem? (i := 2924) (by decide +kernel)) (List.mem_of_getElem? (i := 393) (by decide +kernel)) ⟨by decide, by decide, by decide +kernel⟩ rfl (Nat.le_of_ble_eq_true rfl) (by omega) (by omega) (Nat.le_of_ble_eq_true rfl) lwd_629 rfl (fun H locs h hr0 I => ?_)
  refine lv_istore (lv' := [(5, .int r), (4, .int (nI j)), (3, .ref o), (2, .ref m0), (1, .ref x0), (0, .ref b)]) hx hb lwd_632 hl (by decide) rfl (fun ls hl => ?_)
  refine lv_aload_n hx hb lwd_634 rfl (lv_at hl 3 rfl) ?_
  refine wl_arg (k := 1) C9 (wl_I_S I) (by omega) hL hl 5 rfl 1 rfl lwd_635 lwd_636 lwd_638 (by decide) lwd_639 lwd_640 ?_
  refine wl_R (n := 1) (As := [.int (xs (j + 1))]) (rest := []) C9 hl.1 hCF hE I hRM hM (List.mem_of_getElem? (i := 4569) rfl) (by decide +kernel) (List.mem_of_getElem? (i := 423) (by decide +kernel)) (List.mem_of_getElem? (i := 4566) (by decide +kernel)) (List.mem_of_getElem? (i := 4567) (by decide +kernel)) (List.mem_of_getElem? (i := 4568) (by decide +kernel)) ⟨by decide, by decide, by decide +kernel⟩ rfl (Nat.le_of_ble_eq_true rfl) (by omega) (by omega) (Nat.le_of_ble_eq_true rfl) lwd_641 (fun H locs I => ?_)
  refine lv_istore (lv' := [(6, .int a2), (5, .int r), (4, .int (nI j)), (3, .ref o), (2, .ref m0), (1, .ref x0), (0, .ref b)]) hx hb lwd_644 hl (by decide) rfl (fun ls hl => ?_)
  refine lv_aload_n hx hb lwd_646 rfl (lv_at hl 4 rfl) ?_
  refine wl_R (As := []) (rest := []) C9 hl.1 hCF hE I hRM1 hT (List.mem_of_getElem? (i := 3553) rfl) (by decide +kernel) (List.mem_of_getElem? (i := 423) (by decide +kernel)) (List.mem_of_getElem? (i := 3550) (by decide +kernel)) (List.mem_of_getElem? (i := 3551) (by decide +kernel)) (List.mem_of_getElem? (i := 3552) (by decide +kernel)) ⟨by decide, by decide, by decide +kernel⟩ rfl (Nat.le_of_ble_eq_true rfl) (by omega) (by omega) (Nat.le_of_ble_eq_true rfl) lwd_647 (fun H locs I => ?_)
  refine lv_iload hx hb lwd_650 (lv_at hl 1 rfl) ?_
  refine lv_icmp_eq (tgt := 657) hx hb lwd_652 (by decide) (fun _ => ?_) (fun z => absurd rfl z)
  refine lv_iload hx hb lwd_657 (lv_at hl 1 rfl) ?_
  have hl0 : lv_has ls 8 [(4, .int (nI j)), (3, .ref o), (2, .ref m0), (1, .ref x0), (0, .ref b)] := lv_sub hl [2, 3, 4, 5, 6] rfl
  refine lv_if_ne (tgt := 674) hx hb lwd_659 (by decide) (fun _ => lv_goto (tgt := 880) hx hb lwd_674 (by decide) (kk ls H locs h hl0 I)) (fun hz => ?_)
  obtain ⟨tX, tM, wX, wM, k1, k2, k3, k4, k5, k6, k7, k8⟩ := I
  refine lv_aload_n hx hb lwd_662 rfl (lv_at hl 3 rfl) ?_
  refine lv_iconst (v := 0) hx hb lwd_663 (by decide) ?_
  refine va_lald hx hb k7 k3 0 0 rfl rfl (show vp_in (nI 0) 1 from vp_in_nI (by decide) (by decide)) lwd_664 ?_
  refine lv_topl (fun vo evo => ?_)
  have evo : vo = h 0 := evo
  obtain rfl : vo = a2.toInt64 := evo.trans ((hr0 hz).trans (hab hz))
  refine lv_iload hx hb lwd_665 (lv_at hl 0 rfl) ?_
  refine lv_i2l (v := a2.toInt64) hx hb lwd_667 rfl ?_
  refine W.lcmp hx hb lwd_668 ?_
  rw [wl_cmp0]
  refine lv_if_eq (tgt := 674) hx hb lwd_669 (by decide) (fun _ => ?_) (fun z => absurd rfl z)
  refine lv_goto (tgt := 880) hx hb lwd_674 (by decide) ?_
  exact kk ls H locs h hl0 ⟨tX, tM, wX, wM, k1, k2, k3, k4, k5, k6, k7, k8⟩
set_option maxHeartbeats 4000000 in
set_option maxRecDepth 100000 in
theorem wl_c13 {p : Program} {l : Launch} {e : Env} {s : State} {m : MethodId} {below : List Frame} {meth : Method} {c : Code} {b L : Nat} {xs : Nat → Int32} {H : Heap} {locs : List Loc} {cells slots : Nat} {ls : Array Slot} {Q : State → Prop} {D : va_G} {ka : ev_KA} {x0 m0 o : Nat} {cO : ClassId} {h : Nat → Int64} {KX KM KX1 KM1 : Nat → wl_Y → va_W → Prop} {j : Nat} {r : Int32} {a : Int64} {a2 : Int32} {mx sx mm sm : Nat} (C0 : lw_At p s m meth c b L xs) (hCF : ev_CF al_dfl al_tyf ka (fun q : Nat => s.heap.size ≤ q) s) (hE : wl_EE (fun q : Nat => s.heap.size ≤ q) s) (hL : L ≤ 2048) (hj : j + 3 < L) (hl : lv_has ls 8 [(4, .int (nI j)), (3, .ref o), (2, .ref m0), (1, .ref x0), (0, .ref b)]) (I : wl_I D s H locs x0 m0 o cO h KX KM) (hRM : wl_Rc 0 KM) (hRM1 : wl_Rc 0 KM1)
    (hX : wl_Wc l D ka ly_L_count (lw_wH ly_L_count method_11_code 4 (some .int) [(0, 9, 12, 19)]) x0 KX KX1 [.int (xs (j + 1))] r a mx sx)
    (hM : wl_M l D ka ly_X12_count (lw_w ly_X12_count prog_14_method_251_code 2 (some .int)) 1900 80000 (KM m0) [.ref m0, .int (xs (j + 1))] (fun v t w => v = some (.int a2) ∧ KM1 m0 t w) mm sm)
    (hT : wl_M l D ka ly_X12_thrown (lw_w ly_X12_thrown prog_14_method_2_code 1 (some .int)) 1900 80000 (KM1 m0) [.ref m0] (fun v t w => v = some (.int r) ∧ KM1 m0 t w) 0 0) (hab : r = 0 → a = a2.toInt64)
    (hc : cells + mx + mm ≤ 601024) (hs : slots + sx + sm ≤ room_1.slots)
    (kk : ∀ (ls : Array Slot) (H : Heap) (locs : List Loc) (h : Nat → Int64), lv_has ls 8 [(4, .int (nI j)), (3, .ref o), (2, .ref m0), (1, .ref x0), (0, .ref b)] → wl_I D s H locs x0 m0 o cO h KX1 KM1 → W p l e room_1 s m #[Value.ref b] below meth c H locs (cells + mx + mm) (slots + sx + sm) Q (F0 m 880 ls [])) : W p l e room_1 s m #[Value.ref b] below meth c H locs cells slots Q (F0 m 677 ls []) := by
  have C9 := C0
  obtain ⟨hx, hb, hr, hml, hown, hts, hX0, hbl, hlocks, hgv⟩ := C0
  refine lv_aload_n hx hb lwd_677 rfl (lv_at hl 3 rfl) ?_
  refine wl_arg (k := 1) C9 (wl_I_S I) (by omega) hL hl 4 rfl 0 rfl lwd_678 lwd_679 lwd_681 (by decide) lwd_682 lwd_683 ?_
  refine lv_aload_n hx hb lwd_684 rfl (lv_at hl 1 rfl) ?_
  refine wl_S (n := 3) (As := [.int (xs (j + 1))]) (rest := []) C9 hl.1 hCF hE I hX (List.mem_of_getElem? (i := 2933) rfl) (by decide +kernel) (List.mem_of_getElem? (i := 2931) (by decide +kernel)) (List.mem_of_getElem? (i := 2932) (by decide +kernel)) (List.mem_of_getElem? (i := 393) (by decide +kernel)) ⟨by decide, by decide, by decide +kernel⟩ rfl (Nat.le_of_ble_eq_true rfl) (by omega) (by omega) (Nat.le_of_ble_eq_true rfl) lwd_685 rfl (fun H locs h hr0 I => ?_)
  refine lv_istore (lv' := [(5, .int r), (4, .int (nI j)), (3, .ref o), (2, .ref m0), (1, .ref x0), (0, .ref b)]) hx hb lwd_688 hl (by decide) rfl (fun ls hl => ?_)
  refine lv_aload_n hx hb lwd_690 rfl (lv_at hl 3 rfl) ?_
  refine wl_arg (k := 1) C9 (wl_I_S I) (by omega) hL hl 5 rfl 1 rfl lwd_691 lwd_692 lwd_694 (by decide) lwd_695 lwd_696 ?_
  refine wl_R (n := 1) (As := [.int (xs (j + 1))]) (rest := []) C9 hl.1 hCF hE I hRM hM (List.mem_of_getElem? (i := 4573) rfl) (by decide +kernel) (List.mem_of_getElem? (i := 423) (by decide +kernel)) (List.mem_of_getElem? (i := 4570) (by decide +kernel)) (List.mem_of_getElem? (i := 4571) (by decide +kernel)) (List.mem_of_getElem? (i := 4572) (by decide +kernel)) ⟨by decide, by decide, by decide +kernel⟩ rfl (Nat.le_of_ble_eq_true rfl) (by omega) (by omega) (Nat.le_of_ble_eq_true rfl) lwd_697 (fun H locs I => ?_)
  refine lv_istore (lv' := [(6, .int a2), (5, .int r), (4, .int (nI j)), (3, .ref o), (2, .ref m0), (1, .ref x0), (0, .ref b)]) hx hb lwd_700 hl (by decide) rfl (fun ls hl => ?_)
  refine lv_aload_n hx hb lwd_702 rfl (lv_at hl 4 rfl) ?_
  refine wl_R (As := []) (rest := []) C9 hl.1 hCF hE I hRM1 hT (List.mem_of_getElem? (i := 3553) rfl) (by decide +kernel) (List.mem_of_getElem? (i := 423) (by decide +kernel)) (List.mem_of_getElem? (i := 3550) (by decide +kernel)) (List.mem_of_getElem? (i := 3551) (by decide +kernel)) (List.mem_of_getElem? (i := 3552) (by decide +kernel)) ⟨by decide, by decide, by decide +kernel⟩ rfl (Nat.le_of_ble_eq_true rfl) (by omega) (by omega) (Nat.le_of_ble_eq_true rfl) lwd_703 (fun H locs I => ?_)
  refine lv_iload hx hb lwd_706 (lv_at hl 1 rfl) ?_
  refine lv_icmp_eq (tgt := 713) hx hb lwd_708 (by decide) (fun _ => ?_) (fun z => absurd rfl z)
  refine lv_iload hx hb lwd_713 (lv_at hl 1 rfl) ?_
  have hl0 : lv_has ls 8 [(4, .int (nI j)), (3, .ref o), (2, .ref m0), (1, .ref x0), (0, .ref b)] := lv_sub hl [2, 3, 4, 5, 6] rfl
  refine lv_if_ne (tgt := 730) hx hb lwd_715 (by decide) (fun _ => lv_goto (tgt := 880) hx hb lwd_730 (by decide) (kk ls H locs h hl0 I)) (fun hz => ?_)
  obtain ⟨tX, tM, wX, wM, k1, k2, k3, k4, k5, k6, k7, k8⟩ := I
  refine lv_aload_n hx hb lwd_718 rfl (lv_at hl 3 rfl) ?_
  refine lv_iconst (v := 0) hx hb lwd_719 (by decide) ?_
  refine va_lald hx hb k7 k3 0 0 rfl rfl (show vp_in (nI 0) 1 from vp_in_nI (by decide) (by decide)) lwd_720 ?_
  refine lv_topl (fun vo evo => ?_)
  have evo : vo = h 0 := evo
  obtain rfl : vo = a2.toInt64 := evo.trans ((hr0 hz).trans (hab hz))
  refine lv_iload hx hb lwd_721 (lv_at hl 0 rfl) ?_
  refine lv_i2l (v := a2.toInt64) hx hb lwd_723 rfl ?_
  refine W.lcmp hx hb lwd_724 ?_
  rw [wl_cmp0]
  refine lv_if_eq (tgt := 730) hx hb lwd_725 (by decide) (fun _ => ?_) (fun z => absurd rfl z)
  refine lv_goto (tgt := 880) hx hb lwd_730 (by decide) ?_
  exact kk ls H locs h hl0 ⟨tX, tM, wX, wM, k1, k2, k3, k4, k5, k6, k7, k8⟩
set_option maxHeartbeats 4000000 in
set_option maxRecDepth 100000 in
theorem wl_c14 {p : Program} {l : Launch} {e : Env} {s : State} {m : MethodId} {below : List Frame} {meth : Method} {c : Code} {b L : Nat} {xs : Nat → Int32} {H : Heap} {locs : List Loc} {cells slots : Nat} {ls : Array Slot} {Q : State → Prop} {D : va_G} {ka : ev_KA} {x0 m0 o : Nat} {cO : ClassId} {h : Nat → Int64} {KX KM KX1 KM1 : Nat → wl_Y → va_W → Prop} {j : Nat} {r : Int32} {a : Int64} {a2 : Int32} {mx sx mm sm : Nat} (C0 : lw_At p s m meth c b L xs) (hCF : ev_CF al_dfl al_tyf ka (fun q : Nat => s.heap.size ≤ q) s) (hE : wl_EE (fun q : Nat => s.heap.size ≤ q) s) (hL : L ≤ 2048) (hj : j + 3 < L) (hl : lv_has ls 8 [(4, .int (nI j)), (3, .ref o), (2, .ref m0), (1, .ref x0), (0, .ref b)]) (I : wl_I D s H locs x0 m0 o cO h KX KM) (hRM : wl_Rc 0 KM) (hRM1 : wl_Rc 0 KM1)
    (hX : wl_Wc l D ka ly_L_object (lw_wH ly_L_object method_12_code 5 (some .int) [(0, 10, 13, 19)]) x0 KX KX1 [.int (xs (j + 1)), .int (xs (j + 2))] r a mx sx)
    (hM : wl_M l D ka ly_X12_object_ (lw_w ly_X12_object_ prog_14_method_252_code 3 (some .int)) 1900 80000 (KM m0) [.ref m0, .int (xs (j + 1)), .int (xs (j + 2))] (fun v t w => v = some (.int a2) ∧ KM1 m0 t w) mm sm)
    (hT : wl_M l D ka ly_X12_thrown (lw_w ly_X12_thrown prog_14_method_2_code 1 (some .int)) 1900 80000 (KM1 m0) [.ref m0] (fun v t w => v = some (.int r) ∧ KM1 m0 t w) 0 0) (hab : r = 0 → a = a2.toInt64)
    (hc : cells + mx + mm ≤ 601024) (hs : slots + sx + sm ≤ room_1.slots)
    (kk : ∀ (ls : Array Slot) (H : Heap) (locs : List Loc) (h : Nat → Int64), lv_has ls 8 [(4, .int (nI j)), (3, .ref o), (2, .ref m0), (1, .ref x0), (0, .ref b)] → wl_I D s H locs x0 m0 o cO h KX1 KM1 → W p l e room_1 s m #[Value.ref b] below meth c H locs (cells + mx + mm) (slots + sx + sm) Q (F0 m 880 ls [])) : W p l e room_1 s m #[Value.ref b] below meth c H locs cells slots Q (F0 m 733 ls []) := by
  have C9 := C0
  obtain ⟨hx, hb, hr, hml, hown, hts, hX0, hbl, hlocks, hgv⟩ := C0
  refine lv_aload_n hx hb lwd_733 rfl (lv_at hl 3 rfl) ?_
  refine wl_arg (k := 1) C9 (wl_I_S I) (by omega) hL hl 4 rfl 0 rfl lwd_734 lwd_735 lwd_737 (by decide) lwd_738 lwd_739 ?_
  refine wl_arg (k := 2) C9 (wl_I_S I) (by omega) hL hl 4 rfl 0 rfl lwd_740 lwd_741 lwd_743 (by decide) lwd_744 lwd_745 ?_
  refine lv_aload_n hx hb lwd_746 rfl (lv_at hl 1 rfl) ?_
  refine wl_S (n := 4) (As := [.int (xs (j + 1)), .int (xs (j + 2))]) (rest := []) C9 hl.1 hCF hE I hX (List.mem_of_getElem? (i := 2940) rfl) (by decide +kernel) (List.mem_of_getElem? (i := 2938) (by decide +kernel)) (List.mem_of_getElem? (i := 2939) (by decide +kernel)) (List.mem_of_getElem? (i := 393) (by decide +kernel)) ⟨by decide, by decide, by decide +kernel⟩ rfl (Nat.le_of_ble_eq_true rfl) (by omega) (by omega) (Nat.le_of_ble_eq_true rfl) lwd_747 rfl (fun H locs h hr0 I => ?_)
  refine lv_istore (lv' := [(5, .int r), (4, .int (nI j)), (3, .ref o), (2, .ref m0), (1, .ref x0), (0, .ref b)]) hx hb lwd_750 hl (by decide) rfl (fun ls hl => ?_)
  refine lv_aload_n hx hb lwd_752 rfl (lv_at hl 3 rfl) ?_
  refine wl_arg (k := 1) C9 (wl_I_S I) (by omega) hL hl 5 rfl 1 rfl lwd_753 lwd_754 lwd_756 (by decide) lwd_757 lwd_758 ?_
  refine wl_arg (k := 2) C9 (wl_I_S I) (by omega) hL hl 5 rfl 1 rfl lwd_759 lwd_760 lwd_762 (by decide) lwd_763 lwd_764 ?_
  refine wl_R (n := 2) (As := [.int (xs (j + 1)), .int (xs (j + 2))]) (rest := []) C9 hl.1 hCF hE I hRM hM (List.mem_of_getElem? (i := 4581) rfl) (by decide +kernel) (List.mem_of_getElem? (i := 423) (by decide +kernel)) (List.mem_of_getElem? (i := 4578) (by decide +kernel)) (List.mem_of_getElem? (i := 4579) (by decide +kernel)) (List.mem_of_getElem? (i := 4580) (by decide +kernel)) ⟨by decide, by decide, by decide +kernel⟩ rfl (Nat.le_of_ble_eq_true rfl) (by omega) (by omega) (Nat.le_of_ble_eq_true rfl) lwd_765 (fun H locs I => ?_)
  refine lv_istore (lv' := [(6, .int a2), (5, .int r), (4, .int (nI j)), (3, .ref o), (2, .ref m0), (1, .ref x0), (0, .ref b)]) hx hb lwd_768 hl (by decide) rfl (fun ls hl => ?_)
  refine lv_aload_n hx hb lwd_770 rfl (lv_at hl 4 rfl) ?_
  refine wl_R (As := []) (rest := []) C9 hl.1 hCF hE I hRM1 hT (List.mem_of_getElem? (i := 3553) rfl) (by decide +kernel) (List.mem_of_getElem? (i := 423) (by decide +kernel)) (List.mem_of_getElem? (i := 3550) (by decide +kernel)) (List.mem_of_getElem? (i := 3551) (by decide +kernel)) (List.mem_of_getElem? (i := 3552) (by decide +kernel)) ⟨by decide, by decide, by decide +kernel⟩ rfl (Nat.le_of_ble_eq_true rfl) (by omega) (by omega) (Nat.le_of_ble_eq_true rfl) lwd_771 (fun H locs I => ?_)
  refine lv_iload hx hb lwd_774 (lv_at hl 1 rfl) ?_
  refine lv_icmp_eq (tgt := 781) hx hb lwd_776 (by decide) (fun _ => ?_) (fun z => absurd rfl z)
  refine lv_iload hx hb lwd_781 (lv_at hl 1 rfl) ?_
  have hl0 : lv_has ls 8 [(4, .int (nI j)), (3, .ref o), (2, .ref m0), (1, .ref x0), (0, .ref b)] := lv_sub hl [2, 3, 4, 5, 6] rfl
  refine lv_if_ne (tgt := 798) hx hb lwd_783 (by decide) (fun _ => lv_goto (tgt := 880) hx hb lwd_798 (by decide) (kk ls H locs h hl0 I)) (fun hz => ?_)
  obtain ⟨tX, tM, wX, wM, k1, k2, k3, k4, k5, k6, k7, k8⟩ := I
  refine lv_aload_n hx hb lwd_786 rfl (lv_at hl 3 rfl) ?_
  refine lv_iconst (v := 0) hx hb lwd_787 (by decide) ?_
  refine va_lald hx hb k7 k3 0 0 rfl rfl (show vp_in (nI 0) 1 from vp_in_nI (by decide) (by decide)) lwd_788 ?_
  refine lv_topl (fun vo evo => ?_)
  have evo : vo = h 0 := evo
  obtain rfl : vo = a2.toInt64 := evo.trans ((hr0 hz).trans (hab hz))
  refine lv_iload hx hb lwd_789 (lv_at hl 0 rfl) ?_
  refine lv_i2l (v := a2.toInt64) hx hb lwd_791 rfl ?_
  refine W.lcmp hx hb lwd_792 ?_
  rw [wl_cmp0]
  refine lv_if_eq (tgt := 798) hx hb lwd_793 (by decide) (fun _ => ?_) (fun z => absurd rfl z)
  refine lv_goto (tgt := 880) hx hb lwd_798 (by decide) ?_
  exact kk ls H locs h hl0 ⟨tX, tM, wX, wM, k1, k2, k3, k4, k5, k6, k7, k8⟩
set_option maxHeartbeats 4000000 in
set_option maxRecDepth 100000 in
theorem wl_c15 {p : Program} {l : Launch} {e : Env} {s : State} {m : MethodId} {below : List Frame} {meth : Method} {c : Code} {b L : Nat} {xs : Nat → Int32} {H : Heap} {locs : List Loc} {cells slots : Nat} {ls : Array Slot} {Q : State → Prop} {D : va_G} {ka : ev_KA} {x0 m0 o : Nat} {cO : ClassId} {h : Nat → Int64} {KX KM KX1 KM1 : Nat → wl_Y → va_W → Prop} {j : Nat} {r : Int32} {a : Int64} {a2 : Int64} {mx sx mm sm : Nat} (C0 : lw_At p s m meth c b L xs) (hCF : ev_CF al_dfl al_tyf ka (fun q : Nat => s.heap.size ≤ q) s) (hE : wl_EE (fun q : Nat => s.heap.size ≤ q) s) (hL : L ≤ 2048) (hj : j + 3 < L) (hl : lv_has ls 8 [(4, .int (nI j)), (3, .ref o), (2, .ref m0), (1, .ref x0), (0, .ref b)]) (I : wl_I D s H locs x0 m0 o cO h KX KM) (hRM : wl_Rc 0 KM) (hRM1 : wl_Rc 0 KM1)
    (hX : wl_Wc l D ka ly_L_place (lw_wH ly_L_place method_13_code 6 (some .int) [(0, 11, 14, 19)]) x0 KX KX1 [.int (xs (j + 1)), .int (xs (j + 2)), .int (xs (j + 3))] r a mx sx)
    (hM : wl_M l D ka ly_X12_place (lw_w ly_X12_place prog_14_method_253_code 9 (some .long)) 1900 80000 (KM m0) [.ref m0, .int (xs (j + 1)), .int (xs (j + 2)), .int (xs (j + 3))] (fun v t w => v = some (.long a2) ∧ KM1 m0 t w) mm sm)
    (hT : wl_M l D ka ly_X12_thrown (lw_w ly_X12_thrown prog_14_method_2_code 1 (some .int)) 1900 80000 (KM1 m0) [.ref m0] (fun v t w => v = some (.int r) ∧ KM1 m0 t w) 0 0) (hab : r = 0 → a = a2)
    (hc : cells + mx + mm ≤ 601024) (hs : slots + sx + sm ≤ room_1.slots)
    (kk : ∀ (ls : Array Slot) (H : Heap) (locs : List Loc) (h : Nat → Int64), lv_has ls 8 [(4, .int (nI j)), (3, .ref o), (2, .ref m0), (1, .ref x0), (0, .ref b)] → wl_I D s H locs x0 m0 o cO h KX1 KM1 → W p l e room_1 s m #[Value.ref b] below meth c H locs (cells + mx + mm) (slots + sx + sm) Q (F0 m 880 ls [])) : W p l e room_1 s m #[Value.ref b] below meth c H locs cells slots Q (F0 m 801 ls []) := by
  have C9 := C0
  obtain ⟨hx, hb, hr, hml, hown, hts, hX0, hbl, hlocks, hgv⟩ := C0
  refine lv_aload_n hx hb lwd_801 rfl (lv_at hl 3 rfl) ?_
  refine wl_arg (k := 1) C9 (wl_I_S I) (by omega) hL hl 4 rfl 0 rfl lwd_802 lwd_803 lwd_805 (by decide) lwd_806 lwd_807 ?_
  refine wl_arg (k := 2) C9 (wl_I_S I) (by omega) hL hl 4 rfl 0 rfl lwd_808 lwd_809 lwd_811 (by decide) lwd_812 lwd_813 ?_
  refine wl_arg (k := 3) C9 (wl_I_S I) (by omega) hL hl 4 rfl 0 rfl lwd_814 lwd_815 lwd_817 (by decide) lwd_818 lwd_819 ?_
  refine lv_aload_n hx hb lwd_820 rfl (lv_at hl 1 rfl) ?_
  refine wl_S (n := 5) (As := [.int (xs (j + 1)), .int (xs (j + 2)), .int (xs (j + 3))]) (rest := []) C9 hl.1 hCF hE I hX (List.mem_of_getElem? (i := 2948) rfl) (by decide +kernel) (List.mem_of_getElem? (i := 2946) (by decide +kernel)) (List.mem_of_getElem? (i := 2947) (by decide +kernel)) (List.mem_of_getElem? (i := 393) (by decide +kernel)) ⟨by decide, by decide, by decide +kernel⟩ rfl (Nat.le_of_ble_eq_true rfl) (by omega) (by omega) (Nat.le_of_ble_eq_true rfl) lwd_821 rfl (fun H locs h hr0 I => ?_)
  refine lv_istore (lv' := [(5, .int r), (4, .int (nI j)), (3, .ref o), (2, .ref m0), (1, .ref x0), (0, .ref b)]) hx hb lwd_824 hl (by decide) rfl (fun ls hl => ?_)
  refine lv_aload_n hx hb lwd_826 rfl (lv_at hl 3 rfl) ?_
  refine wl_arg (k := 1) C9 (wl_I_S I) (by omega) hL hl 5 rfl 1 rfl lwd_827 lwd_828 lwd_830 (by decide) lwd_831 lwd_832 ?_
  refine wl_arg (k := 2) C9 (wl_I_S I) (by omega) hL hl 5 rfl 1 rfl lwd_833 lwd_834 lwd_836 (by decide) lwd_837 lwd_838 ?_
  refine wl_arg (k := 3) C9 (wl_I_S I) (by omega) hL hl 5 rfl 1 rfl lwd_839 lwd_840 lwd_842 (by decide) lwd_843 lwd_844 ?_
  refine wl_R (n := 3) (As := [.int (xs (j + 1)), .int (xs (j + 2)), .int (xs (j + 3))]) (rest := []) C9 hl.1 hCF hE I hRM hM (List.mem_of_getElem? (i := 4585) rfl) (by decide +kernel) (List.mem_of_getElem? (i := 423) (by decide +kernel)) (List.mem_of_getElem? (i := 4582) (by decide +kernel)) (List.mem_of_getElem? (i := 4583) (by decide +kernel)) (List.mem_of_getElem? (i := 4584) (by decide +kernel)) ⟨by decide, by decide, by decide +kernel⟩ rfl (Nat.le_of_ble_eq_true rfl) (by omega) (by omega) (Nat.le_of_ble_eq_true rfl) lwd_845 (fun H locs I => ?_)
  refine lv_lstore (lv' := [(6, .long a2), (5, .int r), (4, .int (nI j)), (3, .ref o), (2, .ref m0), (1, .ref x0), (0, .ref b)]) hx hb lwd_848 hl (by decide) rfl (fun ls hl => ?_)
  refine lv_aload_n hx hb lwd_850 rfl (lv_at hl 4 rfl) ?_
  refine wl_R (As := []) (rest := []) C9 hl.1 hCF hE I hRM1 hT (List.mem_of_getElem? (i := 3553) rfl) (by decide +kernel) (List.mem_of_getElem? (i := 423) (by decide +kernel)) (List.mem_of_getElem? (i := 3550) (by decide +kernel)) (List.mem_of_getElem? (i := 3551) (by decide +kernel)) (List.mem_of_getElem? (i := 3552) (by decide +kernel)) ⟨by decide, by decide, by decide +kernel⟩ rfl (Nat.le_of_ble_eq_true rfl) (by omega) (by omega) (Nat.le_of_ble_eq_true rfl) lwd_851 (fun H locs I => ?_)
  refine lv_iload hx hb lwd_854 (lv_at hl 1 rfl) ?_
  refine lv_icmp_eq (tgt := 861) hx hb lwd_856 (by decide) (fun _ => ?_) (fun z => absurd rfl z)
  refine lv_iload hx hb lwd_861 (lv_at hl 1 rfl) ?_
  have hl0 : lv_has ls 8 [(4, .int (nI j)), (3, .ref o), (2, .ref m0), (1, .ref x0), (0, .ref b)] := lv_sub hl [2, 3, 4, 5, 6] rfl
  refine lv_if_ne (tgt := 877) hx hb lwd_863 (by decide) (fun _ => lv_goto (tgt := 880) hx hb lwd_877 (by decide) (kk ls H locs h hl0 I)) (fun hz => ?_)
  obtain ⟨tX, tM, wX, wM, k1, k2, k3, k4, k5, k6, k7, k8⟩ := I
  refine lv_aload_n hx hb lwd_866 rfl (lv_at hl 3 rfl) ?_
  refine lv_iconst (v := 0) hx hb lwd_867 (by decide) ?_
  refine va_lald hx hb k7 k3 0 0 rfl rfl (show vp_in (nI 0) 1 from vp_in_nI (by decide) (by decide)) lwd_868 ?_
  refine lv_topl (fun vo evo => ?_)
  have evo : vo = h 0 := evo
  obtain rfl : vo = a2 := evo.trans ((hr0 hz).trans (hab hz))
  refine lv_lload hx hb lwd_869 (lv_at hl 0 rfl) ?_
  refine W.lcmp hx hb lwd_871 ?_
  rw [wl_cmp0]
  refine lv_if_eq (tgt := 877) hx hb lwd_872 (by decide) (fun _ => ?_) (fun z => absurd rfl z)
  refine lv_goto (tgt := 880) hx hb lwd_877 (by decide) ?_
  exact kk ls H locs h hl0 ⟨tX, tM, wX, wM, k1, k2, k3, k4, k5, k6, k7, k8⟩
