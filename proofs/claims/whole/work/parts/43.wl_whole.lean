/-! ===== 43: the law's loop; the claim out of a system of contracts (by wip/whole2/law43.py) ===== -/
/-- the reference in a state, whatever it threw last -/
def wl_KM0 {T : Type} (KM : T → Int32 → Nat → wl_Y → va_W → Prop) (τ : T) : Nat → wl_Y → va_W → Prop := fun q t w => ∃ th, KM τ th q t w
def wl_T0 (T : Type) (l : Launch) (D : va_G) (ka : ev_KA) (x0 m0 : Nat) (KX : T → Nat → wl_Y → va_W → Prop) (KM : T → Int32 → Nat → wl_Y → va_W → Prop) (τ τ' : T) (y1 y2 y3 : Int32) (mc ms : Nat) : Prop :=
  ∃ (r : Int32) (a : Int64) (a2 : Int32) (mx sx mm sm : Nat), mx + mm = mc ∧ sx + sm = ms ∧ (r = 0 → a = a2.toInt64) ∧ (wl_Wc l D ka ly_L_feed (lw_wH ly_L_feed method_3_code 6 (some .int) [(0, 11, 14, 13)]) x0 (KX τ) (KX τ') [.int y1, .long (wl_long y2 y3)] r a mx sx) ∧ (wl_M l D ka ly_X12_feed (lw_w ly_X12_feed prog_14_method_11_code 5 (some .int)) 1900 80000 (wl_KM0 KM τ m0) [.ref m0, .int y1, .long (wl_long y2 y3)] (fun v t w => v = some (.int a2) ∧ KM τ' r m0 t w) mm sm)
def wl_T1 (T : Type) (l : Launch) (D : va_G) (ka : ev_KA) (x0 m0 : Nat) (KX : T → Nat → wl_Y → va_W → Prop) (KM : T → Int32 → Nat → wl_Y → va_W → Prop) (τ τ' : T) (y1 y2 y3 : Int32) (mc ms : Nat) : Prop :=
  ∃ (a : Int32) (mx sx mm sm : Nat), mx + mm = mc ∧ sx + sm = ms ∧ (wl_M l D ka ly_X11_wipe (lw_w ly_X11_wipe prog_1_method_3_code 2 (some .int)) 1900 80000 (KX τ x0) [.ref x0] (fun v t w => v = some (.int a) ∧ KX τ' x0 t w) mx sx) ∧ (wl_M l D ka ly_X12_wipe (lw_w ly_X12_wipe prog_14_method_12_code 2 (some .int)) 1900 80000 (wl_KM0 KM τ m0) [.ref m0] (fun v t w => v = some (.int a) ∧ wl_KM0 KM τ' m0 t w) mm sm)
def wl_T2 (T : Type) (l : Launch) (D : va_G) (ka : ev_KA) (x0 m0 : Nat) (KX : T → Nat → wl_Y → va_W → Prop) (KM : T → Int32 → Nat → wl_Y → va_W → Prop) (τ τ' : T) (y1 y2 y3 : Int32) (mc ms : Nat) : Prop :=
  ∃ (a : Int32) (mx sx mm sm : Nat), mx + mm = mc ∧ sx + sm = ms ∧ (wl_M l D ka al_yX11_compile (lw_w al_yX11_compile prog_1_method_4_code 2 (some .int)) 1900 80000 (KX τ x0) [.ref x0] (fun v t w => v = some (.int a) ∧ KX τ' x0 t w) mx sx) ∧ (wl_M l D ka al_yX12_compile (lw_w al_yX12_compile prog_14_method_106_code 2 (some .int)) 1900 80000 (wl_KM0 KM τ m0) [.ref m0] (fun v t w => v = some (.int a) ∧ wl_KM0 KM τ' m0 t w) mm sm)
def wl_T3 (T : Type) (l : Launch) (D : va_G) (ka : ev_KA) (x0 m0 : Nat) (KX : T → Nat → wl_Y → va_W → Prop) (KM : T → Int32 → Nat → wl_Y → va_W → Prop) (τ τ' : T) (y1 y2 y3 : Int32) (mc ms : Nat) : Prop :=
  ∃ (r : Int32) (a : Int64) (a2 : Int32) (mx sx mm sm : Nat), mx + mm = mc ∧ sx + sm = ms ∧ (r = 0 → a = a2.toInt64) ∧ (wl_Wc l D ka ly_L_fault (lw_wH ly_L_fault method_4_code 4 (some .int) [(0, 9, 12, 19)]) x0 (KX τ) (KX τ') [.int y1] r a mx sx) ∧ (wl_M l D ka ly_X12_fault (lw_w ly_X12_fault prog_14_method_107_code 2 (some .int)) 1900 80000 (wl_KM0 KM τ m0) [.ref m0, .int y1] (fun v t w => v = some (.int a2) ∧ KM τ' r m0 t w) mm sm)
def wl_T4 (T : Type) (l : Launch) (D : va_G) (ka : ev_KA) (x0 m0 : Nat) (KX : T → Nat → wl_Y → va_W → Prop) (KM : T → Int32 → Nat → wl_Y → va_W → Prop) (τ τ' : T) (y1 y2 y3 : Int32) (mc ms : Nat) : Prop :=
  ∃ (r : Int32) (a : Int64) (a2 : Int32) (mx sx mm sm : Nat), mx + mm = mc ∧ sx + sm = ms ∧ (r = 0 → a = a2.toInt64) ∧ (wl_Wc l D ka ly_L_function (lw_wH ly_L_function method_5_code 5 (some .int) [(0, 10, 13, 19)]) x0 (KX τ) (KX τ') [.int y1, .int y2] r a mx sx) ∧ (wl_M l D ka ly_X12_function (lw_w ly_X12_function prog_14_method_108_code 3 (some .int)) 1900 80000 (wl_KM0 KM τ m0) [.ref m0, .int y1, .int y2] (fun v t w => v = some (.int a2) ∧ KM τ' r m0 t w) mm sm)
def wl_T5 (T : Type) (l : Launch) (D : va_G) (ka : ev_KA) (x0 m0 : Nat) (KX : T → Nat → wl_Y → va_W → Prop) (KM : T → Int32 → Nat → wl_Y → va_W → Prop) (τ τ' : T) (y1 y2 y3 : Int32) (mc ms : Nat) : Prop :=
  ∃ (r : Int32) (mx sx mm sm : Nat), mx + mm = mc ∧ sx + sm = ms ∧ (wl_M l D ka ly_L_load (lw_wH ly_L_load method_6_code 2 (some .int) [(0, 4, 7, 28)]) 1950 82000 (KX τ x0) [.ref x0] (fun v t w => v = some (.int r) ∧ KX τ' x0 t w) mx sx) ∧ (wl_M l D ka ly_X12_load (lw_w ly_X12_load prog_14_method_238_code 1 none) 1900 80000 (wl_KM0 KM τ m0) [.ref m0] (fun v t w => v = none ∧ KM τ' r m0 t w) mm sm)
def wl_T6 (T : Type) (l : Launch) (D : va_G) (ka : ev_KA) (x0 m0 : Nat) (KX : T → Nat → wl_Y → va_W → Prop) (KM : T → Int32 → Nat → wl_Y → va_W → Prop) (τ τ' : T) (y1 y2 y3 : Int32) (mc ms : Nat) : Prop :=
  ∃ (r : Int32) (a : Int64) (a2 : Int32) (mx sx mm sm : Nat), mx + mm = mc ∧ sx + sm = ms ∧ (r = 0 → a = a2.toInt64) ∧ (wl_Wc l D ka ly_L_run (lw_wH ly_L_run method_7_code 4 (some .int) [(0, 9, 12, 28), (0, 9, 15, 13)]) x0 (KX τ) (KX τ') [.int y1] r a mx sx) ∧ (wl_M l D ka ly_X12_run (lw_w ly_X12_run prog_14_method_240_code 2 (some .int)) 1900 80000 (wl_KM0 KM τ m0) [.ref m0, .int y1] (fun v t w => v = some (.int a2) ∧ KM τ' r m0 t w) mm sm)
def wl_T7 (T : Type) (l : Launch) (D : va_G) (ka : ev_KA) (x0 m0 : Nat) (KX : T → Nat → wl_Y → va_W → Prop) (KM : T → Int32 → Nat → wl_Y → va_W → Prop) (τ τ' : T) (y1 y2 y3 : Int32) (mc ms : Nat) : Prop :=
  ∃ (a : Int64) (mx sx mm sm : Nat), mx + mm = mc ∧ sx + sm = ms ∧ (wl_M l D ka ly_X11_steps (lw_w ly_X11_steps prog_1_method_9_code 1 (some .long)) 1900 80000 (KX τ x0) [.ref x0] (fun v t w => v = some (.long a) ∧ KX τ' x0 t w) mx sx) ∧ (wl_M l D ka ly_X12_steps (lw_w ly_X12_steps prog_14_method_241_code 1 (some .long)) 1900 80000 (wl_KM0 KM τ m0) [.ref m0] (fun v t w => v = some (.long a) ∧ wl_KM0 KM τ' m0 t w) mm sm)
def wl_T8 (T : Type) (l : Launch) (D : va_G) (ka : ev_KA) (x0 m0 : Nat) (KX : T → Nat → wl_Y → va_W → Prop) (KM : T → Int32 → Nat → wl_Y → va_W → Prop) (τ τ' : T) (y1 y2 y3 : Int32) (mc ms : Nat) : Prop :=
  ∃ (a : Int32) (mx sx mm sm : Nat), mx + mm = mc ∧ sx + sm = ms ∧ (wl_M l D ka ly_X11_results (lw_w ly_X11_results prog_1_method_10_code 1 (some .int)) 1900 80000 (KX τ x0) [.ref x0] (fun v t w => v = some (.int a) ∧ KX τ' x0 t w) mx sx) ∧ (wl_M l D ka ly_X12_results (lw_w ly_X12_results prog_14_method_243_code 1 (some .int)) 1900 80000 (wl_KM0 KM τ m0) [.ref m0] (fun v t w => v = some (.int a) ∧ wl_KM0 KM τ' m0 t w) mm sm)
def wl_T9 (T : Type) (l : Launch) (D : va_G) (ka : ev_KA) (x0 m0 : Nat) (KX : T → Nat → wl_Y → va_W → Prop) (KM : T → Int32 → Nat → wl_Y → va_W → Prop) (τ τ' : T) (y1 y2 y3 : Int32) (mc ms : Nat) : Prop :=
  ∃ (r : Int32) (a : Int64) (a2 : Int64) (mx sx mm sm : Nat), mx + mm = mc ∧ sx + sm = ms ∧ (r = 0 → a = a2) ∧ (wl_Wc l D ka ly_L_result (lw_wH ly_L_result method_8_code 5 (some .int) [(0, 9, 12, 19)]) x0 (KX τ) (KX τ') [.int y1, .int y2] r a mx sx) ∧ (wl_M l D ka ly_X12_result (lw_w ly_X12_result prog_14_method_246_code 3 (some .long)) 1900 80000 (wl_KM0 KM τ m0) [.ref m0, .int y1, .int y2] (fun v t w => v = some (.long a2) ∧ KM τ' r m0 t w) mm sm)
def wl_T10 (T : Type) (l : Launch) (D : va_G) (ka : ev_KA) (x0 m0 : Nat) (KX : T → Nat → wl_Y → va_W → Prop) (KM : T → Int32 → Nat → wl_Y → va_W → Prop) (τ τ' : T) (y1 y2 y3 : Int32) (mc ms : Nat) : Prop :=
  ∃ (r : Int32) (a : Int64) (a2 : Int32) (mx sx mm sm : Nat), mx + mm = mc ∧ sx + sm = ms ∧ (r = 0 → a = a2.toInt64) ∧ (wl_Wc l D ka ly_L_resultByte (lw_wH ly_L_resultByte method_9_code 5 (some .int) [(0, 10, 13, 19)]) x0 (KX τ) (KX τ') [.int y1, .int y2] r a mx sx) ∧ (wl_M l D ka ly_X12_resultByte (lw_w ly_X12_resultByte prog_14_method_247_code 3 (some .int)) 1900 80000 (wl_KM0 KM τ m0) [.ref m0, .int y1, .int y2] (fun v t w => v = some (.int a2) ∧ KM τ' r m0 t w) mm sm)
def wl_T11 (T : Type) (l : Launch) (D : va_G) (ka : ev_KA) (x0 m0 : Nat) (KX : T → Nat → wl_Y → va_W → Prop) (KM : T → Int32 → Nat → wl_Y → va_W → Prop) (τ τ' : T) (y1 y2 y3 : Int32) (mc ms : Nat) : Prop :=
  ∃ (a : Int32) (mx sx mm sm : Nat), mx + mm = mc ∧ sx + sm = ms ∧ (wl_M l D ka ly_X11_outputs (lw_w ly_X11_outputs prog_1_method_13_code 1 (some .int)) 1900 80000 (KX τ x0) [.ref x0] (fun v t w => v = some (.int a) ∧ KX τ' x0 t w) mx sx) ∧ (wl_M l D ka ly_X12_outputs (lw_w ly_X12_outputs prog_14_method_248_code 1 (some .int)) 1900 80000 (wl_KM0 KM τ m0) [.ref m0] (fun v t w => v = some (.int a) ∧ wl_KM0 KM τ' m0 t w) mm sm)
def wl_T12 (T : Type) (l : Launch) (D : va_G) (ka : ev_KA) (x0 m0 : Nat) (KX : T → Nat → wl_Y → va_W → Prop) (KM : T → Int32 → Nat → wl_Y → va_W → Prop) (τ τ' : T) (y1 y2 y3 : Int32) (mc ms : Nat) : Prop :=
  ∃ (r : Int32) (a : Int64) (a2 : Int32) (mx sx mm sm : Nat), mx + mm = mc ∧ sx + sm = ms ∧ (r = 0 → a = a2.toInt64) ∧ (wl_Wc l D ka ly_L_output (lw_wH ly_L_output method_10_code 4 (some .int) [(0, 9, 12, 19)]) x0 (KX τ) (KX τ') [.int y1] r a mx sx) ∧ (wl_M l D ka ly_X12_output (lw_w ly_X12_output prog_14_method_249_code 2 (some .int)) 1900 80000 (wl_KM0 KM τ m0) [.ref m0, .int y1] (fun v t w => v = some (.int a2) ∧ KM τ' r m0 t w) mm sm)
def wl_T13 (T : Type) (l : Launch) (D : va_G) (ka : ev_KA) (x0 m0 : Nat) (KX : T → Nat → wl_Y → va_W → Prop) (KM : T → Int32 → Nat → wl_Y → va_W → Prop) (τ τ' : T) (y1 y2 y3 : Int32) (mc ms : Nat) : Prop :=
  ∃ (r : Int32) (a : Int64) (a2 : Int32) (mx sx mm sm : Nat), mx + mm = mc ∧ sx + sm = ms ∧ (r = 0 → a = a2.toInt64) ∧ (wl_Wc l D ka ly_L_count (lw_wH ly_L_count method_11_code 4 (some .int) [(0, 9, 12, 19)]) x0 (KX τ) (KX τ') [.int y1] r a mx sx) ∧ (wl_M l D ka ly_X12_count (lw_w ly_X12_count prog_14_method_251_code 2 (some .int)) 1900 80000 (wl_KM0 KM τ m0) [.ref m0, .int y1] (fun v t w => v = some (.int a2) ∧ KM τ' r m0 t w) mm sm)
def wl_T14 (T : Type) (l : Launch) (D : va_G) (ka : ev_KA) (x0 m0 : Nat) (KX : T → Nat → wl_Y → va_W → Prop) (KM : T → Int32 → Nat → wl_Y → va_W → Prop) (τ τ' : T) (y1 y2 y3 : Int32) (mc ms : Nat) : Prop :=
  ∃ (r : Int32) (a : Int64) (a2 : Int32) (mx sx mm sm : Nat), mx + mm = mc ∧ sx + sm = ms ∧ (r = 0 → a = a2.toInt64) ∧ (wl_Wc l D ka ly_L_object (lw_wH ly_L_object method_12_code 5 (some .int) [(0, 10, 13, 19)]) x0 (KX τ) (KX τ') [.int y1, .int y2] r a mx sx) ∧ (wl_M l D ka ly_X12_object_ (lw_w ly_X12_object_ prog_14_method_252_code 3 (some .int)) 1900 80000 (wl_KM0 KM τ m0) [.ref m0, .int y1, .int y2] (fun v t w => v = some (.int a2) ∧ KM τ' r m0 t w) mm sm)
def wl_T15 (T : Type) (l : Launch) (D : va_G) (ka : ev_KA) (x0 m0 : Nat) (KX : T → Nat → wl_Y → va_W → Prop) (KM : T → Int32 → Nat → wl_Y → va_W → Prop) (τ τ' : T) (y1 y2 y3 : Int32) (mc ms : Nat) : Prop :=
  ∃ (r : Int32) (a : Int64) (a2 : Int64) (mx sx mm sm : Nat), mx + mm = mc ∧ sx + sm = ms ∧ (r = 0 → a = a2) ∧ (wl_Wc l D ka ly_L_place (lw_wH ly_L_place method_13_code 6 (some .int) [(0, 11, 14, 19)]) x0 (KX τ) (KX τ') [.int y1, .int y2, .int y3] r a mx sx) ∧ (wl_M l D ka ly_X12_place (lw_w ly_X12_place prog_14_method_253_code 9 (some .long)) 1900 80000 (wl_KM0 KM τ m0) [.ref m0, .int y1, .int y2, .int y3] (fun v t w => v = some (.long a2) ∧ KM τ' r m0 t w) mm sm)
/-- call k of a script, with its three ints, from state τ to state τ' -/
def wl_Step (T : Type) (l : Launch) (D : va_G) (ka : ev_KA) (x0 m0 : Nat) (KX : T → Nat → wl_Y → va_W → Prop) (KM : T → Int32 → Nat → wl_Y → va_W → Prop) (τ τ' : T) (k : Nat) (y1 y2 y3 : Int32) (mc ms : Nat) : Prop := match k with
  | 0 => wl_T0 T l D ka x0 m0 KX KM τ τ' y1 y2 y3 mc ms
  | 1 => wl_T1 T l D ka x0 m0 KX KM τ τ' y1 y2 y3 mc ms
  | 2 => wl_T2 T l D ka x0 m0 KX KM τ τ' y1 y2 y3 mc ms
  | 3 => wl_T3 T l D ka x0 m0 KX KM τ τ' y1 y2 y3 mc ms
  | 4 => wl_T4 T l D ka x0 m0 KX KM τ τ' y1 y2 y3 mc ms
  | 5 => wl_T5 T l D ka x0 m0 KX KM τ τ' y1 y2 y3 mc ms
  | 6 => wl_T6 T l D ka x0 m0 KX KM τ τ' y1 y2 y3 mc ms
  | 7 => wl_T7 T l D ka x0 m0 KX KM τ τ' y1 y2 y3 mc ms
  | 8 => wl_T8 T l D ka x0 m0 KX KM τ τ' y1 y2 y3 mc ms
  | 9 => wl_T9 T l D ka x0 m0 KX KM τ τ' y1 y2 y3 mc ms
  | 10 => wl_T10 T l D ka x0 m0 KX KM τ τ' y1 y2 y3 mc ms
  | 11 => wl_T11 T l D ka x0 m0 KX KM τ τ' y1 y2 y3 mc ms
  | 12 => wl_T12 T l D ka x0 m0 KX KM τ τ' y1 y2 y3 mc ms
  | 13 => wl_T13 T l D ka x0 m0 KX KM τ τ' y1 y2 y3 mc ms
  | 14 => wl_T14 T l D ka x0 m0 KX KM τ τ' y1 y2 y3 mc ms
  | 15 => wl_T15 T l D ka x0 m0 KX KM τ τ' y1 y2 y3 mc ms
  | _ => True
theorem wl_I_mono {D : va_G} {s : State} {H : Heap} {locs : List Loc} {x0 m0 o : Nat} {cO : ClassId} {h : Nat → Int64} {KX KM KM1 : Nat → wl_Y → va_W → Prop} (hK : ∀ q t w, KM q t w → KM1 q t w) (I : wl_I D s H locs x0 m0 o cO h KX KM) : wl_I D s H locs x0 m0 o cO h KX KM1 := by
  obtain ⟨tX, tM, wX, wM, k1, k2, k3⟩ := I
  exact ⟨tX, tM, wX, wM, k1, hK _ _ _ k2, k3⟩
theorem wl_cmp {j L : Nat} (hL : L ≤ 2048) (hj : j ≤ 2100) : (nI L - 4 < nI j) ↔ L < j + 4 := by
  rw [Int32.lt_iff_toInt_lt, Int32.toInt_sub, nI_toInt (by omega), nI_toInt (by omega), show (4 : Int32).toInt = 4 from rfl]
  rw [Int.bmod_def]
  split <;> omega
section WLL
variable {p : Program} {l : Launch} {e : Env} {s : State} {m : MethodId} {below : List Frame} {meth : Method} {c : Code} {b L : Nat} {xs : Nat → Int32}
variable {D : va_G} {ka : ev_KA} {x0 m0 o : Nat} {cO : ClassId} {T : Type} {KX : T → Nat → wl_Y → va_W → Prop} {KM : T → Int32 → Nat → wl_Y → va_W → Prop}
/-- from the switch's end to the loop's head -/
theorem wl_next {H : Heap} {locs : List Loc} {cells slots j : Nat} {ls : Array Slot} {Q : State → Prop} (C0 : lw_At p s m meth c b L xs) (hl : lv_has ls 8 [(4, .int (nI j)), (3, .ref o), (2, .ref m0), (1, .ref x0), (0, .ref b)])
    (kk : ∀ ls : Array Slot, lv_has ls 8 [(4, .int (nI (j + 4))), (3, .ref o), (2, .ref m0), (1, .ref x0), (0, .ref b)] → W p l e room_1 s m #[Value.ref b] below meth c H locs cells slots Q (F0 m 23 ls [])) : W p l e room_1 s m #[Value.ref b] below meth c H locs cells slots Q (F0 m 880 ls []) := by
  obtain ⟨hx, hb, hr, hml, hown, hts, hX, hbl, hlocks, hgv⟩ := C0
  refine lv_iinc (v := nI (j + 4)) (lv' := [(4, .int (nI (j + 4))), (3, .ref o), (2, .ref m0), (1, .ref x0), (0, .ref b)]) hx hb lwd_880 hl (k := 0) rfl (nI_add j 4) (by decide) rfl (fun ls hl => ?_)
  exact lv_goto (tgt := 23) hx hb lwd_883 (by decide) (kk ls hl)
set_option maxHeartbeats 4000000 in
set_option maxRecDepth 100000 in
theorem wl_loop (C0 : lw_At p s m meth c b L xs) (hCF : ev_CF al_dfl al_tyf ka (fun q : Nat => s.heap.size ≤ q) s) (hE : wl_EE (fun q : Nat => s.heap.size ≤ q) s) (hL : L ≤ 2048) (hRX : ∀ τ, wl_Rc 3 (KX τ)) (hRM : ∀ τ th, wl_Rc 0 (KM τ th))
    (hTh : ∀ τ th, wl_M l D ka ly_X12_thrown (lw_w ly_X12_thrown prog_14_method_2_code 1 (some .int)) 1900 80000 (KM τ th m0) [.ref m0] (fun v t w => v = some (.int th) ∧ KM τ th m0 t w) 0 0) (bc bs : T → Nat → Nat)
    (hst : ∀ (τ : T) (n k : Nat) (y1 y2 y3 : Int32), k < 16 → ∃ (τ' : T) (mc ms : Nat), wl_Step T l D ka x0 m0 KX KM τ τ' k y1 y2 y3 mc ms ∧ mc + bc τ' n ≤ bc τ (n + 1) ∧ ms + bs τ' n ≤ bs τ (n + 1)) :
    ∀ (n j : Nat) (τ : T) (H : Heap) (locs : List Loc) (cells slots : Nat) (ls : Array Slot) (h : Nat → Int64), j + 4 * n ≤ L → L < j + 4 * n + 4 → lv_has ls 8 [(4, .int (nI j)), (3, .ref o), (2, .ref m0), (1, .ref x0), (0, .ref b)] → wl_I D s H locs x0 m0 o cO h (KX τ) (wl_KM0 KM τ) → cells + bc τ n ≤ 601024 → slots + bs τ n ≤ room_1.slots →
      W p l e room_1 s m #[Value.ref b] below meth c H locs cells slots (lw_Z below #[Value.ref b] s) (F0 m 23 ls []) := by
  have C9 := C0
  obtain ⟨hx, hb, hr, hml, hown, hts, hX, hbl, hlocks, hgv⟩ := C0
  have hbA : ¬ (fun q : Nat => s.heap.size ≤ q) b := Nat.not_le.mpr hbl
  have hRM0 : ∀ τ, wl_Rc 0 (wl_KM0 KM τ) := fun τ q t w h => by
    obtain ⟨th, h⟩ := h
    exact hRM τ th q t w h
  intro n
  induction n with
  | zero =>
    intro j τ H locs cells slots ls h h1 h2 hl I hc hs
    have hS := wl_I_S I
    refine lv_iload hx hb lwd_23 (lv_at hl 0 rfl) ?_
    refine lv_aload_n hx hb lwd_25 rfl (lv_at hl 4 rfl) ?_
    refine va_slen hx hb hX hbl hbA hS lwd_26 ?_
    refine lv_iconst (v := 4) hx hb lwd_27 (by decide) ?_
    refine lv_isub hx hb lwd_28 ?_
    refine lv_icmp_gt (tgt := 886) hx hb lwd_29 (by decide) (fun _ => ?_) (fun z => absurd ((wl_cmp hL (by omega)).mpr (by omega)) z)
    refine lv_iconst (v := 1) hx hb lwd_886 (by decide) ?_
    refine va_forget (fun q hq => hS.2.2 q hq) ?_
    refine W.widen (k := 601024) (n := room_1.slots) (by omega) (by omega) ?_
    exact lw_ret hx hb hr hlocks lwd_887
  | succ n ih =>
    intro j τ H locs cells slots ls h h1 h2 hl I hc hs
    have hS := wl_I_S I
    refine lv_iload hx hb lwd_23 (lv_at hl 0 rfl) ?_
    refine lv_aload_n hx hb lwd_25 rfl (lv_at hl 4 rfl) ?_
    refine va_slen hx hb hX hbl hbA hS lwd_26 ?_
    refine lv_iconst (v := 4) hx hb lwd_27 (by decide) ?_
    refine lv_isub hx hb lwd_28 ?_
    refine lv_icmp_gt (tgt := 886) hx hb lwd_29 (by decide) (fun z => absurd ((wl_cmp hL (by omega)).mp z) (by omega)) (fun _ => ?_)
    refine lv_aload_n hx hb lwd_32 rfl (lv_at hl 4 rfl) ?_
    refine lv_iload hx hb lwd_33 (lv_at hl 0 rfl) ?_
    refine va_sld hx hb hX hbl hbA hS (i := nI j) (vp_in_nI (by omega) (by omega)) lwd_35 ?_
    refine lv_bipush (v := 15) hx hb lwd_36 (by decide) ?_
    refine lv_iand hx hb lwd_38 ?_
    obtain ⟨k, hk, ek⟩ := lw_and15 (xs (nI j).toNatClampNeg)
    refine lv_topi (fun z ez => ?_)
    obtain rfl : z = nI k := ez.trans ek
    have e16 : k = 0 ∨ k = 1 ∨ k = 2 ∨ k = 3 ∨ k = 4 ∨ k = 5 ∨ k = 6 ∨ k = 7 ∨ k = 8 ∨ k = 9 ∨ k = 10 ∨ k = 11 ∨ k = 12 ∨ k = 13 ∨ k = 14 ∨ k = 15 := by omega
    obtain ⟨τ', mc, ms, hstep, hb1, hb2⟩ := hst τ n k (xs (j + 1)) (xs (j + 2)) (xs (j + 3)) hk
    clear ek ez hk
    have fin : ∀ (cells' slots' : Nat), cells' = cells + mc → slots' = slots + ms → ∀ (KM1 : Nat → wl_Y → va_W → Prop), (∀ q t w, KM1 q t w → wl_KM0 KM τ' q t w) → ∀ (ls : Array Slot) (H : Heap) (locs : List Loc) (h : Nat → Int64), lv_has ls 8 [(4, .int (nI j)), (3, .ref o), (2, .ref m0), (1, .ref x0), (0, .ref b)] → wl_I D s H locs x0 m0 o cO h (KX τ') KM1 → W p l e room_1 s m #[Value.ref b] below meth c H locs cells' slots' (lw_Z below #[Value.ref b] s) (F0 m 880 ls []) := by
      intro cells' slots' ec es KM1 hK1 ls H locs h hl I
      subst ec; subst es
      exact wl_next C9 hl (fun ls hl => ih (j + 4) τ' H locs _ _ ls h (by omega) (by omega) hl (wl_I_mono hK1 I) (by omega) (by omega))
    rcases e16 with rfl | rfl | rfl | rfl | rfl | rfl | rfl | rfl | rfl | rfl | rfl | rfl | rfl | rfl | rfl | rfl
    · have hstep : wl_T0 T l D ka x0 m0 KX KM τ τ' (xs (j + 1)) (xs (j + 2)) (xs (j + 3)) mc ms := hstep
      refine lv_tableIn hx hb (off := 77) (tgt := 116) lwd_39 (by decide) (by decide) (by decide) (by decide) ?_
      obtain ⟨r, a, a2, mx, sx, mm, sm, em, es, hab, h3, h4⟩ := hstep
      exact wl_c0 C9 hCF hE hL (by omega) hl I (hRM0 τ) (hRM τ' r) h3 h4 (hTh τ' r) hab (by omega) (by omega) (fin _ _ (by omega) (by omega) _ (fun _ _ _ h => ⟨r, h⟩))
    · have hstep : wl_T1 T l D ka x0 m0 KX KM τ τ' (xs (j + 1)) (xs (j + 2)) (xs (j + 3)) mc ms := hstep
      refine lv_tableIn hx hb (off := 177) (tgt := 216) lwd_39 (by decide) (by decide) (by decide) (by decide) ?_
      obtain ⟨a, mx, sx, mm, sm, em, es, h3, h4⟩ := hstep
      exact wl_c1 C9 hCF hE hL (by omega) hl I (hRX τ) (hRM0 τ) h3 h4 (by omega) (by omega) (fin _ _ (by omega) (by omega) _ (fun _ _ _ h => h))
    · have hstep : wl_T2 T l D ka x0 m0 KX KM τ τ' (xs (j + 1)) (xs (j + 2)) (xs (j + 3)) mc ms := hstep
      refine lv_tableIn hx hb (off := 190) (tgt := 229) lwd_39 (by decide) (by decide) (by decide) (by decide) ?_
      obtain ⟨a, mx, sx, mm, sm, em, es, h3, h4⟩ := hstep
      exact wl_c2 C9 hCF hE hL (by omega) hl I (hRX τ) (hRM0 τ) h3 h4 (by omega) (by omega) (fin _ _ (by omega) (by omega) _ (fun _ _ _ h => h))
    · have hstep : wl_T3 T l D ka x0 m0 KX KM τ τ' (xs (j + 1)) (xs (j + 2)) (xs (j + 3)) mc ms := hstep
      refine lv_tableIn hx hb (off := 203) (tgt := 242) lwd_39 (by decide) (by decide) (by decide) (by decide) ?_
      obtain ⟨r, a, a2, mx, sx, mm, sm, em, es, hab, h3, h4⟩ := hstep
      exact wl_c3 C9 hCF hE hL (by omega) hl I (hRM0 τ) (hRM τ' r) h3 h4 (hTh τ' r) hab (by omega) (by omega) (fin _ _ (by omega) (by omega) _ (fun _ _ _ h => ⟨r, h⟩))
    · have hstep : wl_T4 T l D ka x0 m0 KX KM τ τ' (xs (j + 1)) (xs (j + 2)) (xs (j + 3)) mc ms := hstep
      refine lv_tableIn hx hb (off := 259) (tgt := 298) lwd_39 (by decide) (by decide) (by decide) (by decide) ?_
      obtain ⟨r, a, a2, mx, sx, mm, sm, em, es, hab, h3, h4⟩ := hstep
      exact wl_c4 C9 hCF hE hL (by omega) hl I (hRM0 τ) (hRM τ' r) h3 h4 (hTh τ' r) hab (by omega) (by omega) (fin _ _ (by omega) (by omega) _ (fun _ _ _ h => ⟨r, h⟩))
    · have hstep : wl_T5 T l D ka x0 m0 KX KM τ τ' (xs (j + 1)) (xs (j + 2)) (xs (j + 3)) mc ms := hstep
      refine lv_tableIn hx hb (off := 327) (tgt := 366) lwd_39 (by decide) (by decide) (by decide) (by decide) ?_
      obtain ⟨r, mx, sx, mm, sm, em, es, h3, h4⟩ := hstep
      exact wl_c5 C9 hCF hE hL (by omega) hl I (hRM0 τ) (hRM τ' r) h3 h4 (hTh τ' r) (by omega) (by omega) (fin _ _ (by omega) (by omega) _ (fun _ _ _ h => ⟨r, h⟩))
    · have hstep : wl_T6 T l D ka x0 m0 KX KM τ τ' (xs (j + 1)) (xs (j + 2)) (xs (j + 3)) mc ms := hstep
      refine lv_tableIn hx hb (off := 351) (tgt := 390) lwd_39 (by decide) (by decide) (by decide) (by decide) ?_
      obtain ⟨r, a, a2, mx, sx, mm, sm, em, es, hab, h3, h4⟩ := hstep
      exact wl_c6 C9 hCF hE hL (by omega) hl I (hRM0 τ) (hRM τ' r) h3 h4 (hTh τ' r) hab (by omega) (by omega) (fin _ _ (by omega) (by omega) _ (fun _ _ _ h => ⟨r, h⟩))
    · have hstep : wl_T7 T l D ka x0 m0 KX KM τ τ' (xs (j + 1)) (xs (j + 2)) (xs (j + 3)) mc ms := hstep
      refine lv_tableIn hx hb (off := 407) (tgt := 446) lwd_39 (by decide) (by decide) (by decide) (by decide) ?_
      obtain ⟨a, mx, sx, mm, sm, em, es, h3, h4⟩ := hstep
      exact wl_c7 C9 hCF hE hL (by omega) hl I (hRX τ) (hRM0 τ) h3 h4 (by omega) (by omega) (fin _ _ (by omega) (by omega) _ (fun _ _ _ h => h))
    · have hstep : wl_T8 T l D ka x0 m0 KX KM τ τ' (xs (j + 1)) (xs (j + 2)) (xs (j + 3)) mc ms := hstep
      refine lv_tableIn hx hb (off := 421) (tgt := 460) lwd_39 (by decide) (by decide) (by decide) (by decide) ?_
      obtain ⟨a, mx, sx, mm, sm, em, es, h3, h4⟩ := hstep
      exact wl_c8 C9 hCF hE hL (by omega) hl I (hRX τ) (hRM0 τ) h3 h4 (by omega) (by omega) (fin _ _ (by omega) (by omega) _ (fun _ _ _ h => h))
    · have hstep : wl_T9 T l D ka x0 m0 KX KM τ τ' (xs (j + 1)) (xs (j + 2)) (xs (j + 3)) mc ms := hstep
      refine lv_tableIn hx hb (off := 434) (tgt := 473) lwd_39 (by decide) (by decide) (by decide) (by decide) ?_
      obtain ⟨r, a, a2, mx, sx, mm, sm, em, es, hab, h3, h4⟩ := hstep
      exact wl_c9 C9 hCF hE hL (by omega) hl I (hRM0 τ) (hRM τ' r) h3 h4 (hTh τ' r) hab (by omega) (by omega) (fin _ _ (by omega) (by omega) _ (fun _ _ _ h => ⟨r, h⟩))
    · have hstep : wl_T10 T l D ka x0 m0 KX KM τ τ' (xs (j + 1)) (xs (j + 2)) (xs (j + 3)) mc ms := hstep
      refine lv_tableIn hx hb (off := 501) (tgt := 540) lwd_39 (by decide) (by decide) (by decide) (by decide) ?_
      obtain ⟨r, a, a2, mx, sx, mm, sm, em, es, hab, h3, h4⟩ := hstep
      exact wl_c10 C9 hCF hE hL (by omega) hl I (hRM0 τ) (hRM τ' r) h3 h4 (hTh τ' r) hab (by omega) (by omega) (fin _ _ (by omega) (by omega) _ (fun _ _ _ h => ⟨r, h⟩))
    · have hstep : wl_T11 T l D ka x0 m0 KX KM τ τ' (xs (j + 1)) (xs (j + 2)) (xs (j + 3)) mc ms := hstep
      refine lv_tableIn hx hb (off := 569) (tgt := 608) lwd_39 (by decide) (by decide) (by decide) (by decide) ?_
      obtain ⟨a, mx, sx, mm, sm, em, es, h3, h4⟩ := hstep
      exact wl_c11 C9 hCF hE hL (by omega) hl I (hRX τ) (hRM0 τ) h3 h4 (by omega) (by omega) (fin _ _ (by omega) (by omega) _ (fun _ _ _ h => h))
    · have hstep : wl_T12 T l D ka x0 m0 KX KM τ τ' (xs (j + 1)) (xs (j + 2)) (xs (j + 3)) mc ms := hstep
      refine lv_tableIn hx hb (off := 582) (tgt := 621) lwd_39 (by decide) (by decide) (by decide) (by decide) ?_
      obtain ⟨r, a, a2, mx, sx, mm, sm, em, es, hab, h3, h4⟩ := hstep
      exact wl_c12 C9 hCF hE hL (by omega) hl I (hRM0 τ) (hRM τ' r) h3 h4 (hTh τ' r) hab (by omega) (by omega) (fin _ _ (by omega) (by omega) _ (fun _ _ _ h => ⟨r, h⟩))
    · have hstep : wl_T13 T l D ka x0 m0 KX KM τ τ' (xs (j + 1)) (xs (j + 2)) (xs (j + 3)) mc ms := hstep
      refine lv_tableIn hx hb (off := 638) (tgt := 677) lwd_39 (by decide) (by decide) (by decide) (by decide) ?_
      obtain ⟨r, a, a2, mx, sx, mm, sm, em, es, hab, h3, h4⟩ := hstep
      exact wl_c13 C9 hCF hE hL (by omega) hl I (hRM0 τ) (hRM τ' r) h3 h4 (hTh τ' r) hab (by omega) (by omega) (fin _ _ (by omega) (by omega) _ (fun _ _ _ h => ⟨r, h⟩))
    · have hstep : wl_T14 T l D ka x0 m0 KX KM τ τ' (xs (j + 1)) (xs (j + 2)) (xs (j + 3)) mc ms := hstep
      refine lv_tableIn hx hb (off := 694) (tgt := 733) lwd_39 (by decide) (by decide) (by decide) (by decide) ?_
      obtain ⟨r, a, a2, mx, sx, mm, sm, em, es, hab, h3, h4⟩ := hstep
      exact wl_c14 C9 hCF hE hL (by omega) hl I (hRM0 τ) (hRM τ' r) h3 h4 (hTh τ' r) hab (by omega) (by omega) (fin _ _ (by omega) (by omega) _ (fun _ _ _ h => ⟨r, h⟩))
    · have hstep : wl_T15 T l D ka x0 m0 KX KM τ τ' (xs (j + 1)) (xs (j + 2)) (xs (j + 3)) mc ms := hstep
      refine lv_tableIn hx hb (off := 762) (tgt := 801) lwd_39 (by decide) (by decide) (by decide) (by decide) ?_
      obtain ⟨r, a, a2, mx, sx, mm, sm, em, es, hab, h3, h4⟩ := hstep
      exact wl_c15 C9 hCF hE hL (by omega) hl I (hRM0 τ) (hRM τ' r) h3 h4 (hTh τ' r) hab (by omega) (by omega) (fin _ _ (by omega) (by omega) _ (fun _ _ _ h => ⟨r, h⟩))
end WLL
theorem wl_D_swap {A : Nat → Prop} {a b c : va_W} (h : va_D A (a ++ (b ++ c))) : va_D A (a ++ (c ++ b)) := by
  refine va_D.app h.ev_l h.ev_r.comm (fun i j x y hx hy hxy => ?_)
  have hy1 : ∃ j' : Nat, (b ++ c)[j']? = some y := by
    obtain ⟨k, hk⟩ := List.getElem?_of_mem ((List.mem_append.mp (List.mem_of_getElem? hy)).elim (fun q => List.mem_append_right b q) (fun q => List.mem_append_left c q))
    exact ⟨k, hk⟩
  obtain ⟨j', hj'⟩ := hy1
  have h1 : (a ++ (b ++ c))[i]? = some x := by rw [List.getElem?_append_left (List.getElem?_eq_some_iff.mp hx).1]; exact hx
  have h2 : (a ++ (b ++ c))[a.length + j']? = some y := by rw [List.getElem?_append_right (Nat.le_add_right _ _), Nat.add_sub_cancel_left]; exact hj'
  have h3 := h.1 _ _ _ _ h1 h2 hxy
  have h4 := (List.getElem?_eq_some_iff.mp hx).1
  omega
/-- WHAT IS OWED BEYOND THE LAW: one set of states T, what class and reference hold in each (KX, KM), and for each of the sixteen calls contracts that answer alike -/
def wl_Sys (l : Launch) : Prop := ∃ (T : Type) (KX : ev_KA → T → Nat → wl_Y → va_W → Prop) (KM : ev_KA → T → Int32 → Nat → wl_Y → va_W → Prop) (τ0 : T) (bc bs : T → Nat → Nat),
  (∀ ka τ, wl_Rc 3 (KX ka τ)) ∧ (∀ ka τ th, wl_Rc 0 (KM ka τ th)) ∧
  (∀ (ka : ev_KA) (tys : wl_Y) (q : Nat) (l2 : List Nat) (ws : va_W), ev_M ka "TableTongue$Part" tys (q :: l2) al_h11 ws → KX ka τ0 q tys ws) ∧
  (∀ (ka : ev_KA) (tys : wl_Y) (q : Nat) (l2 : List Nat) (ws : va_W), ev_M ka "TableTongue$Part" tys (q :: l2) al_h19 ws → KM ka τ0 0 q tys ws) ∧
  (∀ n, n ≤ 512 → 275 + bc τ0 n ≤ 601024) ∧ (∀ n, n ≤ 512 → 1472971 + bs τ0 n ≤ room_1.slots) ∧
  ∀ (D : va_G) (ka : ev_KA) (x0 m0 : Nat), (∀ τ th, wl_M l D ka ly_X12_thrown (lw_w ly_X12_thrown prog_14_method_2_code 1 (some .int)) 1900 80000 (KM ka τ th m0) [.ref m0] (fun v t w => v = some (.int th) ∧ KM ka τ th m0 t w) 0 0) ∧
    ∀ (τ : T) (n k : Nat) (y1 y2 y3 : Int32), k < 16 → ∃ (τ' : T) (mc ms : Nat), wl_Step T l D ka x0 m0 (KX ka) (KM ka) τ τ' k y1 y2 y3 mc ms ∧ mc + bc τ' n ≤ bc τ (n + 1) ∧ ms + bs τ' n ≤ bs τ (n + 1)
set_option maxHeartbeats 4000000 in
set_option maxRecDepth 100000 in
/-- the law comes to its end with true, if class and reference are such a system -/
theorem wl_whole_of {p : Program} {e : Env} {s : State} {m : MethodId} {below : List Frame} {meth : Method} {c : Code} (l : Launch) {b L : Nat} {xs : Nat → Int32} (hsys : wl_Sys l) (hL : L ≤ 2048) (C0 : lw_At p s m meth c b L xs) : W p l e room_1 s m #[Value.ref b] below meth c s.heap [] 0 0 (lw_Z below #[Value.ref b] s) (entryFrame m ([Value.ref b] : List Value).toArray 8) := by
  obtain ⟨T, KX, KM, τ0, bc, bs, hRX, hRM, hi1, hi2, hbc, hbs, hst⟩ := hsys
  have C9 := C0
  obtain ⟨hx, hb, hr, hml, hown, hts, hX, hbl, hlocks, hgv⟩ := C0
  have hA0 : ∀ a : Nat, a < s.heap.size → ¬ (fun q : Nat => s.heap.size ≤ q) a := fun a h => Nat.not_le.mpr h
  obtain ⟨D, hK0⟩ := lw_K0 hts
  obtain ⟨ka, hCF⟩ := al_CF0 (A := fun q : Nat => s.heap.size ≤ q) hgv hts hA0
  have hE : wl_EE (fun q : Nat => s.heap.size ≤ q) s := ⟨lw_E0 hts hgv hA0, va_Nc.of (flat_of_before _ hgv _ (by decide +kernel))⟩
  have hS0 : va_S (fun q : Nat => s.heap.size ≤ q) s.heap s.heap [] := va_S.rf
  have hl := lv_entry ([.ref b]) (n := 8) (Nat.le_of_ble_eq_true rfl)
  rw [lg_entry_eq]
  generalize (lg_sl ([.ref b]) ++ List.replicate (8 - (lg_sl ([.ref b])).length) Slot.unset).toArray = ls at hl ⊢
  have hl : lv_has ls 8 [(0, .ref b)] := hl
  refine lw_mk (own := "TableTongueLaw") (C := "TableTongue") (T := al_TX11) (N := 12) (ci := 3) (idx := 8) (ic := 53) (mid := 47) (d := 20) (nL := 8) (y := al_yX11_init) (bytes := prog_1_method_1_code) (maxL := 1) (wf := []) hx hb hml hl.1 hown hts hCF (fun _ h => h) rfl (by decide) (by decide +kernel) hK0 (fun k q h => (by cases h)) ⟨fun i j x y h => (by cases h), fun k q h => (by cases h)⟩ hS0 (List.mem_of_getElem? (i := 428) (by decide +kernel)) (List.mem_of_getElem? (i := 429) (by decide +kernel)) (List.mem_of_getElem? (i := 394) (by decide +kernel)) (List.mem_of_getElem? (i := 432) rfl) (by decide +kernel) (List.mem_of_getElem? (i := 394) (by decide +kernel)) (List.mem_of_getElem? (i := 430) (by decide +kernel)) (List.mem_of_getElem? (i := 431) (by decide +kernel)) rfl ⟨by decide, by decide, by decide +kernel⟩ rfl al_ctor (Nat.le_of_ble_eq_true rfl) (Nat.le_of_ble_eq_true rfl) (Nat.le_of_ble_eq_true rfl) (Nat.le_of_ble_eq_true rfl) lwd_0 lwd_3 lwd_4 (fun x0 lx tx wx H1 locs1 hMx hKx hP1 hD1 hS1 => ?_)
  rw [List.append_nil] at hP1 hD1
  refine lv_astore_n (lv' := [(1, .ref x0), (0, .ref b)]) hx hb lwd_7 rfl hl (by decide) rfl (fun ls hl => ?_)
  refine lw_mk (own := "TableTongueLaw") (C := "TableTongueModel") (T := al_TX12) (N := 160) (ci := 0) (idx := 54) (ic := 56) (mid := 16) (d := 30) (nL := 8) (y := al_yX12_init) (bytes := prog_14_method_1_code) (maxL := 2) (wf := wx) hx hb hml hl.1 hown hts hCF (fun _ h => h) rfl (by decide) (by decide +kernel) hK0 hP1 hD1 hS1 (List.mem_of_getElem? (i := 2957) (by decide +kernel)) (List.mem_of_getElem? (i := 2958) (by decide +kernel)) (List.mem_of_getElem? (i := 423) (by decide +kernel)) (List.mem_of_getElem? (i := 2961) rfl) (by decide +kernel) (List.mem_of_getElem? (i := 423) (by decide +kernel)) (List.mem_of_getElem? (i := 2959) (by decide +kernel)) (List.mem_of_getElem? (i := 2960) (by decide +kernel)) rfl ⟨by decide, by decide, by decide +kernel⟩ rfl al_mctor (Nat.le_of_ble_eq_true rfl) (Nat.le_of_ble_eq_true rfl) (Nat.le_of_ble_eq_true rfl) (Nat.le_of_ble_eq_true rfl) lwd_8 lwd_11 lwd_12 (fun m0 lm tm wm H2 locs2 hMm hKm hP2 hD2 hS2 => ?_)
  refine lv_astore_n (lv' := [(2, .ref m0), (1, .ref x0), (0, .ref b)]) hx hb lwd_15 rfl hl (by decide) rfl (fun ls hl => ?_)
  refine lv_iconst (v := 1) hx hb lwd_16 (by decide) ?_
  refine va_newa (atype := .long) (ty := .long) (N' := 1) (a0 := (1, .inr (.inl (fun _ => 0)))) hx hb (hts _ (List.mem_of_getElem? (i := 645) (by decide +kernel))) rfl hK0 hP2 hD2 hS2 (fun _ h => h) (fun cA => rfl) (by decide) (by decide) (by decide) (Nat.le_of_ble_eq_true rfl) (Nat.le_of_ble_eq_true rfl) lwd_17 (fun o cO H3 hK3 hP3 hD3 hS3 => ?_)
  refine lv_astore_n (lv' := [(3, .ref o), (2, .ref m0), (1, .ref x0), (0, .ref b)]) hx hb lwd_19 rfl hl (by decide) rfl (fun ls hl => ?_)
  refine lv_iconst (v := 0) hx hb lwd_20 (by decide) ?_
  refine lv_istore (lv' := [(4, .int 0), (3, .ref o), (2, .ref m0), (1, .ref x0), (0, .ref b)]) hx hb lwd_21 hl (by decide) rfl (fun ls hl => ?_)
  have hPw : va_P D al_cl ([wl_o o cO (fun _ => 0)] ++ (wx ++ wm)) H3 := va_P.app hP3.ev_r (va_P.app hP3.ef_l.ev_r hP3.ef_l.ef_l)
  have hDw : va_D (fun q : Nat => s.heap.size ≤ q) ([wl_o o cO (fun _ => 0)] ++ (wx ++ wm)) := wl_D_swap hD3.comm
  have hKo : va_K D al_cl [(cO, .long)] s := hK3
  have hdiv : ∃ n, 0 + 4 * n ≤ L ∧ L < 0 + 4 * n + 4 ∧ n ≤ 512 := ⟨L / 4, by omega, by omega, by omega⟩
  obtain ⟨n, hn1, hn2, hn3⟩ := hdiv
  have hb1 := hbc n hn3
  have hb2 := hbs n hn3
  obtain ⟨hTh, hst⟩ := hst D ka x0 m0
  exact wl_loop C9 hCF hE hL (hRX ka) (hRM ka) hTh bc bs hst n 0 τ0 H3 locs2 _ _ ls (fun _ => 0) hn1 hn2 hl ⟨tx, tm, wx, wm, hi1 ka tx x0 lx wx hMx, ⟨0, hi2 ka tm m0 lm wm hMm⟩, hPw, hDw, hKx, hKm, hKo, hS3⟩ (by omega) (by omega)
