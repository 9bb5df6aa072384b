/-! ===== 12: the tables are the machine's ===== -/
abbrev al_W0 : List Jvm.Cond := ev_W1 al_mk al_cl al_more
abbrev al_WN : List Jvm.Cond := ev_W0 al_mk al_cl al_more
set_option maxRecDepth 100000 in
theorem al_good : ∀ w ∈ al_W0, goodWord w = true := List.all_eq_true.mp (by decide +kernel)
/-- names that differ, by a check over the list -/
theorem ev_nodup {T : u_T} {N : Nat} (h : (List.range N).all (fun a => (List.range a).all (fun b => decide ((T a).2.1 ≠ (T b).2.1))) = true) : ∀ a, a < N → ∀ b, b < N → a ≠ b → (T a).2.1 ≠ (T b).2.1 := by
  intro a ha b hb hab
  rcases Nat.lt_or_ge b a with q | q
  · exact of_decide_eq_true (List.all_eq_true.mp (List.all_eq_true.mp h a (List.mem_range.mpr ha)) b (List.mem_range.mpr q))
  · have q2 : a < b := by omega
    exact fun e => of_decide_eq_true (List.all_eq_true.mp (List.all_eq_true.mp h b (List.mem_range.mpr hb)) a (List.mem_range.mpr q2)) e.symm
set_option maxRecDepth 100000 in
theorem al_ndX12 : (List.range 160).all (fun a => (List.range a).all (fun b => decide ((al_TX12 a).2.1 ≠ (al_TX12 b).2.1))) = true := by decide +kernel
set_option maxRecDepth 100000 in
theorem al_cCX12 : ev_ckC al_tyf 0 (al_RX12, al_TX12, 160) = true := by decide +kernel
set_option maxRecDepth 100000 in
theorem al_ndS2 : (List.range 2).all (fun a => (List.range a).all (fun b => decide ((al_TS2 a).2.1 ≠ (al_TS2 b).2.1))) = true := by decide +kernel
set_option maxRecDepth 100000 in
theorem al_cCS2 : ev_ckC al_tyf 1 (al_RJ0, al_TS2, 2) = true := by decide +kernel
set_option maxRecDepth 100000 in
theorem al_ndJ0 : (List.range 4).all (fun a => (List.range a).all (fun b => decide ((al_TJ0 a).2.1 ≠ (al_TJ0 b).2.1))) = true := by decide +kernel
set_option maxRecDepth 100000 in
theorem al_cCJ0 : ev_ckC al_tyf 2 (al_RJ0, al_TJ0, 4) = true := by decide +kernel
set_option maxRecDepth 100000 in
theorem al_ndX11 : (List.range 12).all (fun a => (List.range a).all (fun b => decide ((al_TX11 a).2.1 ≠ (al_TX11 b).2.1))) = true := by decide +kernel
set_option maxRecDepth 100000 in
theorem al_cCX11 : ev_ckC al_tyf 3 (al_RX11, al_TX11, 12) = true := by decide +kernel
set_option maxRecDepth 100000 in
theorem al_ndX8 : (List.range 16).all (fun a => (List.range a).all (fun b => decide ((al_TX8 a).2.1 ≠ (al_TX8 b).2.1))) = true := by decide +kernel
set_option maxRecDepth 100000 in
theorem al_cCX8 : ev_ckC al_tyf 4 (al_RX8, al_TX8, 16) = true := by decide +kernel
set_option maxRecDepth 100000 in
theorem al_ndX6 : (List.range 15).all (fun a => (List.range a).all (fun b => decide ((al_TX6 a).2.1 ≠ (al_TX6 b).2.1))) = true := by decide +kernel
set_option maxRecDepth 100000 in
theorem al_cCX6 : ev_ckC al_tyf 5 (al_RX6, al_TX6, 15) = true := by decide +kernel
set_option maxRecDepth 100000 in
theorem al_ndX9 : (List.range 17).all (fun a => (List.range a).all (fun b => decide ((al_TX9 a).2.1 ≠ (al_TX9 b).2.1))) = true := by decide +kernel
set_option maxRecDepth 100000 in
theorem al_cCX9 : ev_ckC al_tyf 6 (al_RX9, al_TX9, 17) = true := by decide +kernel
set_option maxRecDepth 100000 in
theorem al_ndX3 : (List.range 12).all (fun a => (List.range a).all (fun b => decide ((al_TX3 a).2.1 ≠ (al_TX3 b).2.1))) = true := by decide +kernel
set_option maxRecDepth 100000 in
theorem al_cCX3 : ev_ckC al_tyf 7 (al_RX3, al_TX3, 12) = true := by decide +kernel
set_option maxRecDepth 100000 in
theorem al_ndX5 : (List.range 16).all (fun a => (List.range a).all (fun b => decide ((al_TX5 a).2.1 ≠ (al_TX5 b).2.1))) = true := by decide +kernel
set_option maxRecDepth 100000 in
theorem al_cCX5 : ev_ckC al_tyf 8 (al_RX5, al_TX5, 16) = true := by decide +kernel
set_option maxRecDepth 100000 in
theorem al_ndX10 : (List.range 9).all (fun a => (List.range a).all (fun b => decide ((al_TX10 a).2.1 ≠ (al_TX10 b).2.1))) = true := by decide +kernel
set_option maxRecDepth 100000 in
theorem al_cCX10 : ev_ckC al_tyf 9 (al_RX10, al_TX10, 9) = true := by decide +kernel
set_option maxRecDepth 100000 in
theorem al_ndX4 : (List.range 13).all (fun a => (List.range a).all (fun b => decide ((al_TX4 a).2.1 ≠ (al_TX4 b).2.1))) = true := by decide +kernel
set_option maxRecDepth 100000 in
theorem al_cCX4 : ev_ckC al_tyf 10 (al_RX4, al_TX4, 13) = true := by decide +kernel
set_option maxRecDepth 100000 in
theorem al_ndX7 : (List.range 12).all (fun a => (List.range a).all (fun b => decide ((al_TX7 a).2.1 ≠ (al_TX7 b).2.1))) = true := by decide +kernel
set_option maxRecDepth 100000 in
theorem al_cCX7 : ev_ckC al_tyf 11 (al_RX7, al_TX7, 12) = true := by decide +kernel
set_option maxRecDepth 100000 in
theorem al_ndX0 : (List.range 15).all (fun a => (List.range a).all (fun b => decide ((al_TX0 a).2.1 ≠ (al_TX0 b).2.1))) = true := by decide +kernel
set_option maxRecDepth 100000 in
theorem al_cCX0 : ev_ckC al_tyf 12 (al_RX0, al_TX0, 15) = true := by decide +kernel
set_option maxRecDepth 100000 in
theorem al_ndX2 : (List.range 19).all (fun a => (List.range a).all (fun b => decide ((al_TX2 a).2.1 ≠ (al_TX2 b).2.1))) = true := by decide +kernel
set_option maxRecDepth 100000 in
theorem al_cCX2 : ev_ckC al_tyf 13 (al_RX2, al_TX2, 19) = true := by decide +kernel
set_option maxRecDepth 100000 in
theorem al_ndX1 : (List.range 16).all (fun a => (List.range a).all (fun b => decide ((al_TX1 a).2.1 ≠ (al_TX1 b).2.1))) = true := by decide +kernel
set_option maxRecDepth 100000 in
theorem al_cCX1 : ev_ckC al_tyf 14 (al_RX1, al_TX1, 16) = true := by decide +kernel
theorem al_cl1 : ∀ (k : Nat) (c : vw_C), al_cl[k]? = some c → ev_ckC al_tyf k c = true ∧ ∀ a, a < c.2.2 → ∀ b, b < c.2.2 → a ≠ b → (c.2.1 a).2.1 ≠ (c.2.1 b).2.1 := by
  intro k c h
  match k, h with
  | 0, h => exact (Option.some.inj h) ▸ ⟨al_cCX12, ev_nodup al_ndX12⟩
  | 1, h => exact (Option.some.inj h) ▸ ⟨al_cCS2, ev_nodup al_ndS2⟩
  | 2, h => exact (Option.some.inj h) ▸ ⟨al_cCJ0, ev_nodup al_ndJ0⟩
  | 3, h => exact (Option.some.inj h) ▸ ⟨al_cCX11, ev_nodup al_ndX11⟩
  | 4, h => exact (Option.some.inj h) ▸ ⟨al_cCX8, ev_nodup al_ndX8⟩
  | 5, h => exact (Option.some.inj h) ▸ ⟨al_cCX6, ev_nodup al_ndX6⟩
  | 6, h => exact (Option.some.inj h) ▸ ⟨al_cCX9, ev_nodup al_ndX9⟩
  | 7, h => exact (Option.some.inj h) ▸ ⟨al_cCX3, ev_nodup al_ndX3⟩
  | 8, h => exact (Option.some.inj h) ▸ ⟨al_cCX5, ev_nodup al_ndX5⟩
  | 9, h => exact (Option.some.inj h) ▸ ⟨al_cCX10, ev_nodup al_ndX10⟩
  | 10, h => exact (Option.some.inj h) ▸ ⟨al_cCX4, ev_nodup al_ndX4⟩
  | 11, h => exact (Option.some.inj h) ▸ ⟨al_cCX7, ev_nodup al_ndX7⟩
  | 12, h => exact (Option.some.inj h) ▸ ⟨al_cCX0, ev_nodup al_ndX0⟩
  | 13, h => exact (Option.some.inj h) ▸ ⟨al_cCX2, ev_nodup al_ndX2⟩
  | 14, h => exact (Option.some.inj h) ▸ ⟨al_cCX1, ev_nodup al_ndX1⟩
  | n + 15, h =>
    have := (List.getElem?_eq_some_iff.mp h).1
    have e : al_cl.length = 15 := rfl
    omega
theorem al_Cls : ev_Cls al_W0 al_cl al_tyf := ev_Cls_of (by decide) (fun k c h => (al_cl1 k c h).1) (fun k c h => (al_cl1 k c h).2)
set_option maxRecDepth 100000 in
theorem al_ckAll : ∀ (k : Nat) (m : ev_Mk), al_mk[k]? = some m → ev_ckMe al_more al_cl al_dfl al_tyf al_mk "TableTongue$Part" m = true := by
  intro k m h
  match k, h with
  | 0, h => exact (Option.some.inj h) ▸ al_ck_X8_put
  | 1, h => exact (Option.some.inj h) ▸ al_ck_J0_charAt_5068e
  | 2, h => exact (Option.some.inj h) ▸ al_ck_J0_isLatin1_aae02
  | 3, h => exact (Option.some.inj h) ▸ al_ck_J1_charAt_3b067
  | 4, h => exact (Option.some.inj h) ▸ al_ck_J0_checkIndex_df160
  | 5, h => exact (Option.some.inj h) ▸ al_ck_J3_checkIndex_8e157
  | 6, h => exact (Option.some.inj h) ▸ al_ck_J0_length_8abf5
  | 7, h => exact (Option.some.inj h) ▸ al_ck_J0_coder_7d493
  | 8, h => exact (Option.some.inj h) ▸ al_ck_X8_find
  | 9, h => exact (Option.some.inj h) ▸ al_ck_X8_add
  | 10, h => exact (Option.some.inj h) ▸ al_ck_X8_begin
  | 11, h => exact (Option.some.inj h) ▸ al_ck_X8_keepLatent
  | 12, h => exact (Option.some.inj h) ▸ al_ck_X8_keepFixed
  | 13, h => exact (Option.some.inj h) ▸ al_ck_X8_putWords
  | 14, h => exact (Option.some.inj h) ▸ al_ck_X1_latent
  | 15, h => exact (Option.some.inj h) ▸ al_ck_X1_fixed
  | 16, h => exact (Option.some.inj h) ▸ al_ck_X12_init
  | 17, h => exact (Option.some.inj h) ▸ al_ck_X12_internBuilt
  | 18, h => exact (Option.some.inj h) ▸ al_ck_X12_internTypes
  | 19, h => exact (Option.some.inj h) ▸ al_ck_X12_internNames
  | 20, h => exact (Option.some.inj h) ▸ al_ck_X12_hidden
  | 21, h => exact (Option.some.inj h) ▸ al_ck_X12_word
  | 22, h => exact (Option.some.inj h) ▸ al_ck_X12_intern
  | 23, h => exact (Option.some.inj h) ▸ al_ck_X12_hashOf
  | 24, h => exact (Option.some.inj h) ▸ al_ck_X12_compile
  | 25, h => exact (Option.some.inj h) ▸ al_ck_X12_forgetFrom
  | 26, h => exact (Option.some.inj h) ▸ al_ck_X12_readTokens
  | 27, h => exact (Option.some.inj h) ▸ al_ck_X12_skip
  | 28, h => exact (Option.some.inj h) ▸ al_ck_X12_at
  | 29, h => exact (Option.some.inj h) ▸ al_ck_X12_readText
  | 30, h => exact (Option.some.inj h) ▸ al_ck_X12_emit
  | 31, h => exact (Option.some.inj h) ▸ al_ck_X12_later
  | 32, h => exact (Option.some.inj h) ▸ al_ck_X12_goOn
  | 33, h => exact (Option.some.inj h) ▸ al_ck_X12_readBlock
  | 34, h => exact (Option.some.inj h) ▸ al_ck_X12_isWord
  | 35, h => exact (Option.some.inj h) ▸ al_ck_X12_beginsStatement
  | 36, h => exact (Option.some.inj h) ▸ al_ck_X12_isSign
  | 37, h => exact (Option.some.inj h) ▸ al_ck_X12_goOnStatement
  | 38, h => exact (Option.some.inj h) ▸ al_ck_X12_reload
  | 39, h => exact (Option.some.inj h) ▸ al_ck_X12_fill
  | 40, h => exact (Option.some.inj h) ▸ al_ck_X12_set
  | 41, h => exact (Option.some.inj h) ▸ al_ck_X12_placeOf
  | 42, h => exact (Option.some.inj h) ▸ al_ck_X12_keyHash
  | 43, h => exact (Option.some.inj h) ▸ al_ck_X12_object
  | 44, h => exact (Option.some.inj h) ▸ al_ck_X12_how
  | 45, h => exact (Option.some.inj h) ▸ al_ck_X12_openFrame
  | 46, h => exact (Option.some.inj h) ▸ al_ck_X12_forget
  | 47, h => exact (Option.some.inj h) ▸ al_ck_X11_init
  | 48, h => exact (Option.some.inj h) ▸ al_ck_X11_compile
  | 49, h => exact (Option.some.inj h) ▸ al_ck_X11_forget
  | 50, h => exact (Option.some.inj h) ▸ al_ck_X8_init
  | 51, h => exact (Option.some.inj h) ▸ al_ck_X8_keepNames
  | 52, h => exact (Option.some.inj h) ▸ al_ck_X8_dropText
  | 53, h => exact (Option.some.inj h) ▸ al_ck_X8_dropMade
  | 54, h => exact (Option.some.inj h) ▸ al_ck_X8_cutTo
  | 55, h => exact (Option.some.inj h) ▸ al_ck_X6_init
  | 56, h => exact (Option.some.inj h) ▸ al_ck_X6_clear
  | 57, h => exact (Option.some.inj h) ▸ al_ck_X6_addFunction
  | 58, h => exact (Option.some.inj h) ▸ al_ck_X6_emit
  | 59, h => exact (Option.some.inj h) ▸ al_ck_X9_init
  | 60, h => exact (Option.some.inj h) ▸ al_ck_X9_clear
  | 61, h => exact (Option.some.inj h) ▸ al_ck_X9_open
  | 62, h => exact (Option.some.inj h) ▸ al_ck_X9_find
  | 63, h => exact (Option.some.inj h) ▸ al_ck_X9_put
  | 64, h => exact (Option.some.inj h) ▸ al_ck_X9_add
  | 65, h => exact (Option.some.inj h) ▸ al_ck_X3_init
  | 66, h => exact (Option.some.inj h) ▸ al_ck_X3_clear
  | 67, h => exact (Option.some.inj h) ▸ al_ck_X3_make
  | 68, h => exact (Option.some.inj h) ▸ al_ck_X5_init
  | 69, h => exact (Option.some.inj h) ▸ al_ck_X5_open
  | 70, h => exact (Option.some.inj h) ▸ al_ck_X5_enter
  | 71, h => exact (Option.some.inj h) ▸ al_ck_X10_init
  | 72, h => exact (Option.some.inj h) ▸ al_ck_X10_open
  | 73, h => exact (Option.some.inj h) ▸ al_ck_X10_begin
  | 74, h => exact (Option.some.inj h) ▸ al_ck_X10_behindBlanks
  | 75, h => exact (Option.some.inj h) ▸ al_ck_X4_init
  | 76, h => exact (Option.some.inj h) ▸ al_ck_X4_judge
  | 77, h => exact (Option.some.inj h) ▸ al_ck_X4_next
  | 78, h => exact (Option.some.inj h) ▸ al_ck_X4_emit
  | 79, h => exact (Option.some.inj h) ▸ al_ck_X4_startsStatement
  | 80, h => exact (Option.some.inj h) ▸ al_ck_X4_block
  | 81, h => exact (Option.some.inj h) ▸ al_ck_X7_init
  | 82, h => exact (Option.some.inj h) ▸ al_ck_X7_clear
  | 83, h => exact (Option.some.inj h) ▸ al_ck_X7_enter
  | 84, h => exact (Option.some.inj h) ▸ al_ck_X7_height
  | 85, h => exact (Option.some.inj h) ▸ al_ck_X0_init
  | 86, h => exact (Option.some.inj h) ▸ al_ck_X0_clear
  | 87, h => exact (Option.some.inj h) ▸ al_ck_X2_init
  | 88, h => exact (Option.some.inj h) ▸ al_ck_X2_reset
  | 89, h => exact (Option.some.inj h) ▸ al_ck_X1_init
  | 90, h => exact (Option.some.inj h) ▸ al_ck_X1_keepNames
  | 91, h => exact (Option.some.inj h) ▸ al_ck_X1_furnish
  | 92, h => exact (Option.some.inj h) ▸ al_ck_X1_newTable
  | 93, h => exact (Option.some.inj h) ▸ al_ck_J0_indexOf_0f7a4
  | 94, h => exact (Option.some.inj h) ▸ al_ck_J0_indexOf_7cf53
  | 95, h => exact (Option.some.inj h) ▸ al_ck_J0_substring_b52d3
  | 96, h => exact (Option.some.inj h) ▸ al_ck_J0_substring_37a41
  | 97, h => exact (Option.some.inj h) ▸ al_ck_J0_init_031fb
  | 98, h => exact (Option.some.inj h) ▸ al_ck_J0_checkBoundsBeginEnd_23922
  | 99, h => exact (Option.some.inj h) ▸ al_ck_J1_canEncode_9a6ad
  | 100, h => exact (Option.some.inj h) ▸ al_ck_J1_indexOf_4cfef
  | 101, h => exact (Option.some.inj h) ▸ al_ck_J1_indexOfChar_4cfef
  | 102, h => exact (Option.some.inj h) ▸ al_ck_J1_newString_b4f7a
  | 103, h => exact (Option.some.inj h) ▸ al_ck_J3_checkFromToIndex_8c36e
  | 104, h => exact (Option.some.inj h) ▸ al_ck_J7_fill_53178
  | 105, h => exact (Option.some.inj h) ▸ al_ck_J7_fill_031fb
  | 106, h => exact (Option.some.inj h) ▸ al_ck_J7_checkLength_df160
  | 107, h => exact (Option.some.inj h) ▸ al_ck_J7_copyOfRange_39247
  | 108, h => exact (Option.some.inj h) ▸ al_ck_J7_copyOfRangeByte_39247
  | 109, h => exact (Option.some.inj h) ▸ al_ck_X4_refuse
  | 110, h => exact (Option.some.inj h) ▸ al_ck_X4_expect
  | 111, h => exact (Option.some.inj h) ▸ al_ck_X4_take
  | 112, h => exact (Option.some.inj h) ▸ al_ck_X4_push
  | 113, h => exact (Option.some.inj h) ▸ al_ck_X4_cut
  | 114, h => exact (Option.some.inj h) ▸ al_ck_X4_startsExpression
  | 115, h => exact (Option.some.inj h) ▸ al_ck_X4_closedBlock
  | 116, h => exact (Option.some.inj h) ▸ al_ck_X4_statement
  | 117, h => exact (Option.some.inj h) ▸ al_ck_X4_returnStatement
  | 118, h => exact (Option.some.inj h) ▸ al_ck_X4_breakStatement
  | 119, h => exact (Option.some.inj h) ▸ al_ck_X4_whileStatement
  | 120, h => exact (Option.some.inj h) ▸ al_ck_X4_endLoop
  | 121, h => exact (Option.some.inj h) ▸ al_ck_X4_repeatStatement
  | 122, h => exact (Option.some.inj h) ▸ al_ck_X4_ifStatement
  | 123, h => exact (Option.some.inj h) ▸ al_ck_X4_condition
  | 124, h => exact (Option.some.inj h) ▸ al_ck_X4_newName
  | 125, h => exact (Option.some.inj h) ▸ al_ck_X4_moreNames
  | 126, h => exact (Option.some.inj h) ▸ al_ck_X4_forStatement
  | 127, h => exact (Option.some.inj h) ▸ al_ck_X4_countingFor
  | 128, h => exact (Option.some.inj h) ▸ al_ck_X4_rowFor
  | 129, h => exact (Option.some.inj h) ▸ al_ck_X4_adjust
  | 130, h => exact (Option.some.inj h) ▸ al_ck_X4_localStatement
  | 131, h => exact (Option.some.inj h) ▸ al_ck_X4_functionStatement
  | 132, h => exact (Option.some.inj h) ▸ al_ck_X4_cutIfNeeded
  | 133, h => exact (Option.some.inj h) ▸ al_ck_X4_startName
  | 134, h => exact (Option.some.inj h) ▸ al_ck_X4_fieldName
  | 135, h => exact (Option.some.inj h) ▸ al_ck_X4_keyName
  | 136, h => exact (Option.some.inj h) ▸ al_ck_X4_readTail
  | 137, h => exact (Option.some.inj h) ▸ al_ck_X4_chain
  | 138, h => exact (Option.some.inj h) ▸ al_ck_X4_link
  | 139, h => exact (Option.some.inj h) ▸ al_ck_X4_given
  | 140, h => exact (Option.some.inj h) ▸ al_ck_X4_chainStatement
  | 141, h => exact (Option.some.inj h) ▸ al_ck_X4_assignment
  | 142, h => exact (Option.some.inj h) ▸ al_ck_X4_notePlace
  | 143, h => exact (Option.some.inj h) ▸ al_ck_X4_assign
  | 144, h => exact (Option.some.inj h) ▸ al_ck_X4_row
  | 145, h => exact (Option.some.inj h) ▸ al_ck_X4_strength
  | 146, h => exact (Option.some.inj h) ▸ al_ck_X4_unary
  | 147, h => exact (Option.some.inj h) ▸ al_ck_X4_binary
  | 148, h => exact (Option.some.inj h) ▸ al_ck_X4_expression
  | 149, h => exact (Option.some.inj h) ▸ al_ck_X4_operation
  | 150, h => exact (Option.some.inj h) ▸ al_ck_X4_operand
  | 151, h => exact (Option.some.inj h) ▸ al_ck_X4_table
  | 152, h => exact (Option.some.inj h) ▸ al_ck_X4_separator
  | 153, h => exact (Option.some.inj h) ▸ al_ck_X4_keyedField
  | 154, h => exact (Option.some.inj h) ▸ al_ck_X4_itemField
  | 155, h => exact (Option.some.inj h) ▸ al_ck_X4_body
  | 156, h => exact (Option.some.inj h) ▸ al_ck_X4_parameters
  | 157, h => exact (Option.some.inj h) ▸ al_ck_X6_addWhole
  | 158, h => exact (Option.some.inj h) ▸ al_ck_X6_wantOfLast
  | 159, h => exact (Option.some.inj h) ▸ al_ck_X6_land
  | 160, h => exact (Option.some.inj h) ▸ al_ck_X7_leave
  | 161, h => exact (Option.some.inj h) ▸ al_ck_X7_current
  | 162, h => exact (Option.some.inj h) ▸ al_ck_X7_setHeight
  | 163, h => exact (Option.some.inj h) ▸ al_ck_X7_rise
  | 164, h => exact (Option.some.inj h) ▸ al_ck_X7_breaks
  | 165, h => exact (Option.some.inj h) ▸ al_ck_X7_setBreaks
  | 166, h => exact (Option.some.inj h) ▸ al_ck_X7_hide
  | 167, h => exact (Option.some.inj h) ▸ al_ck_X7_reveal
  | 168, h => exact (Option.some.inj h) ▸ al_ck_X7_close
  | 169, h => exact (Option.some.inj h) ▸ al_ck_X7_resolve
  | 170, h => exact (Option.some.inj h) ▸ al_ck_X7_slotOf
  | 171, h => exact (Option.some.inj h) ▸ al_ck_X7_capturedOf
  | 172, h => exact (Option.some.inj h) ▸ al_ck_X8_lengthOf
  | 173, h => exact (Option.some.inj h) ▸ al_ck_X8_byteOf
  | 174, h => exact (Option.some.inj h) ▸ al_ck_X8_has
  | 175, h => exact (Option.some.inj h) ▸ al_ck_X8_compare
  | 176, h => exact (Option.some.inj h) ▸ al_ck_X8_rowLength
  | 177, h => exact (Option.some.inj h) ▸ al_ck_X8_rowByte
  | 178, h => exact (Option.some.inj h) ▸ al_ck_X8_putPiece
  | 179, h => exact (Option.some.inj h) ▸ al_ck_X8_putString
  | 180, h => exact (Option.some.inj h) ▸ al_ck_X8_putWhole
  | 181, h => exact (Option.some.inj h) ▸ al_ck_X8_keepTextual
  | 182, h => exact (Option.some.inj h) ▸ al_ck_X8_wordOfRow
  | 183, h => exact (Option.some.inj h) ▸ al_ck_X8_make
  | 184, h => exact (Option.some.inj h) ▸ al_ck_X10_stop
  | 185, h => exact (Option.some.inj h) ▸ al_ck_X10_assignFollows
  | 186, h => exact (Option.some.inj h) ▸ al_ck_X10_byteAt
  | 187, h => exact (Option.some.inj h) ▸ al_ck_X10_isDigit
  | 188, h => exact (Option.some.inj h) ▸ al_ck_X10_isLetter
  | 189, h => exact (Option.some.inj h) ▸ al_ck_X10_hexDigit
  | 190, h => exact (Option.some.inj h) ▸ al_ck_X10_scanName
  | 191, h => exact (Option.some.inj h) ▸ al_ck_X10_scanNumber
  | 192, h => exact (Option.some.inj h) ▸ al_ck_X10_scanQuoted
  | 193, h => exact (Option.some.inj h) ▸ al_ck_X10_escape
  | 194, h => exact (Option.some.inj h) ▸ al_ck_X10_scanSign
  | 195, h => exact (Option.some.inj h) ▸ al_ck_X10_pairOf
  | 196, h => exact (Option.some.inj h) ▸ al_ck_X12_lineOf
  | 197, h => exact (Option.some.inj h) ▸ al_ck_X12_isLetter
  | 198, h => exact (Option.some.inj h) ▸ al_ck_X12_isDigit
  | 199, h => exact (Option.some.inj h) ▸ al_ck_X12_hex
  | 200, h => exact (Option.some.inj h) ▸ al_ck_X12_wordAt
  | 201, h => exact (Option.some.inj h) ▸ al_ck_X12_wordBehind
  | 202, h => exact (Option.some.inj h) ▸ al_ck_X12_readName
  | 203, h => exact (Option.some.inj h) ▸ al_ck_X12_readWhole
  | 204, h => exact (Option.some.inj h) ▸ al_ck_X12_escape
  | 205, h => exact (Option.some.inj h) ▸ al_ck_X12_readString
  | 206, h => exact (Option.some.inj h) ▸ al_ck_X12_pair
  | 207, h => exact (Option.some.inj h) ▸ al_ck_X12_isAlone
  | 208, h => exact (Option.some.inj h) ▸ al_ck_X12_readSign
  | 209, h => exact (Option.some.inj h) ▸ al_ck_X12_fail
  | 210, h => exact (Option.some.inj h) ▸ al_ck_X12_here
  | 211, h => exact (Option.some.inj h) ▸ al_ck_X12_wrong
  | 212, h => exact (Option.some.inj h) ▸ al_ck_X12_take
  | 213, h => exact (Option.some.inj h) ▸ al_ck_X12_needSign
  | 214, h => exact (Option.some.inj h) ▸ al_ck_X12_needWord
  | 215, h => exact (Option.some.inj h) ▸ al_ck_X12_lineHere
  | 216, h => exact (Option.some.inj h) ▸ al_ck_X12_enter
  | 217, h => exact (Option.some.inj h) ▸ al_ck_X12_beginsE
  | 218, h => exact (Option.some.inj h) ▸ al_ck_X12_proto
  | 219, h => exact (Option.some.inj h) ▸ al_ck_X12_countLocal
  | 220, h => exact (Option.some.inj h) ▸ al_ck_X12_know
  | 221, h => exact (Option.some.inj h) ▸ al_ck_X12_captured
  | 222, h => exact (Option.some.inj h) ▸ al_ck_X12_resolve
  | 223, h => exact (Option.some.inj h) ▸ al_ck_X12_discharge
  | 224, h => exact (Option.some.inj h) ▸ al_ck_X12_block
  | 225, h => exact (Option.some.inj h) ▸ al_ck_X12_endScope
  | 226, h => exact (Option.some.inj h) ▸ al_ck_X12_statement
  | 227, h => exact (Option.some.inj h) ▸ al_ck_X12_openLoop
  | 228, h => exact (Option.some.inj h) ▸ al_ck_X12_closeLoop
  | 229, h => exact (Option.some.inj h) ▸ al_ck_X12_readBreak
  | 230, h => exact (Option.some.inj h) ▸ al_ck_X12_readLocal
  | 231, h => exact (Option.some.inj h) ▸ al_ck_X12_localRow
  | 232, h => exact (Option.some.inj h) ▸ al_ck_X12_readFunction
  | 233, h => exact (Option.some.inj h) ▸ al_ck_X12_readFor
  | 234, h => exact (Option.some.inj h) ▸ al_ck_X12_leftOf
  | 235, h => exact (Option.some.inj h) ▸ al_ck_X12_strength
  | 236, h => exact (Option.some.inj h) ▸ al_ck_X12_readE
  | 237, h => exact (Option.some.inj h) ▸ al_ck_X12_constant
  | 238, h => exact (Option.some.inj h) ▸ al_ck_X12_operand
  | 239, h => exact (Option.some.inj h) ▸ al_ck_X12_readOps
  | 240, h => exact (Option.some.inj h) ▸ al_ck_X12_eventOf
  | 241, h => exact (Option.some.inj h) ▸ al_ck_X12_binary
  | 242, h => exact (Option.some.inj h) ▸ al_ck_X12_unary
  | 243, h => exact (Option.some.inj h) ▸ al_ck_X12_chain
  | 244, h => exact (Option.some.inj h) ▸ al_ck_X12_beginsGiven
  | 245, h => exact (Option.some.inj h) ▸ al_ck_X12_suffix
  | 246, h => exact (Option.some.inj h) ▸ al_ck_X12_given
  | 247, h => exact (Option.some.inj h) ▸ al_ck_X12_row
  | 248, h => exact (Option.some.inj h) ▸ al_ck_X12_table
  | 249, h => exact (Option.some.inj h) ▸ al_ck_X12_fields
  | 250, h => exact (Option.some.inj h) ▸ al_ck_X12_isParting
  | 251, h => exact (Option.some.inj h) ▸ al_ck_X12_keyed
  | 252, h => exact (Option.some.inj h) ▸ al_ck_X12_positional
  | 253, h => exact (Option.some.inj h) ▸ al_ck_X12_body
  | 254, h => exact (Option.some.inj h) ▸ al_ck_X12_parameters
  | 255, h => exact (Option.some.inj h) ▸ al_ck_X12_bodyEnd
  | 256, h => exact (Option.some.inj h) ▸ al_ck_X12_afterChain
  | 257, h => exact (Option.some.inj h) ▸ al_ck_X12_assign
  | 258, h => exact (Option.some.inj h) ▸ al_ck_X12_then
  | 259, h => exact (Option.some.inj h) ▸ al_ck_X12_afterIf
  | 260, h => exact (Option.some.inj h) ▸ al_ck_X12_endIf
  | 261, h => exact (Option.some.inj h) ▸ al_ck_X12_whileDo
  | 262, h => exact (Option.some.inj h) ▸ al_ck_X12_whileEnd
  | 263, h => exact (Option.some.inj h) ▸ al_ck_X12_until
  | 264, h => exact (Option.some.inj h) ▸ al_ck_X12_untilEnd
  | 265, h => exact (Option.some.inj h) ▸ al_ck_X12_forTwo
  | 266, h => exact (Option.some.inj h) ▸ al_ck_X12_forThree
  | 267, h => exact (Option.some.inj h) ▸ al_ck_X12_forDo
  | 268, h => exact (Option.some.inj h) ▸ al_ck_X12_forEnd
  | 269, h => exact (Option.some.inj h) ▸ al_ck_X12_inDo
  | 270, h => exact (Option.some.inj h) ▸ al_ck_X12_inEnd
  | 271, h => exact (Option.some.inj h) ▸ al_ck_X12_returned
  | 272, h => exact (Option.some.inj h) ▸ al_ck_X12_functionDone
  | 273, h => exact (Option.some.inj h) ▸ al_ck_X12_closeParen
  | 274, h => exact (Option.some.inj h) ▸ al_ck_X12_closeBracket
  | 275, h => exact (Option.some.inj h) ▸ al_ck_X12_chainValue
  | 276, h => exact (Option.some.inj h) ▸ al_ck_X12_called
  | n + 277, h =>
    have := (List.getElem?_eq_some_iff.mp h).1
    have e : al_mk.length = 277 := rfl
    omega
set_option maxRecDepth 100000 in
theorem al_kkAll : ∀ (k : Nat) (m : ev_MeK), al_mtK[k]? = some m → ev_ckK m.2.2.2.2 = true := by
  intro k m h
  match k, h with
  | 0, h => exact (Option.some.inj h) ▸ al_kk_X8_put
  | 1, h => exact (Option.some.inj h) ▸ al_kk_J0_charAt_5068e
  | 2, h => exact (Option.some.inj h) ▸ al_kk_J0_isLatin1_aae02
  | 3, h => exact (Option.some.inj h) ▸ al_kk_J1_charAt_3b067
  | 4, h => exact (Option.some.inj h) ▸ al_kk_J0_checkIndex_df160
  | 5, h => exact (Option.some.inj h) ▸ al_kk_J3_checkIndex_8e157
  | 6, h => exact (Option.some.inj h) ▸ al_kk_J0_length_8abf5
  | 7, h => exact (Option.some.inj h) ▸ al_kk_J0_coder_7d493
  | 8, h => exact (Option.some.inj h) ▸ al_kk_X8_find
  | 9, h => exact (Option.some.inj h) ▸ al_kk_X8_add
  | 10, h => exact (Option.some.inj h) ▸ al_kk_X8_begin
  | 11, h => exact (Option.some.inj h) ▸ al_kk_X8_keepLatent
  | 12, h => exact (Option.some.inj h) ▸ al_kk_X8_keepFixed
  | 13, h => exact (Option.some.inj h) ▸ al_kk_X8_putWords
  | 14, h => exact (Option.some.inj h) ▸ al_kk_X1_latent
  | 15, h => exact (Option.some.inj h) ▸ al_kk_X1_fixed
  | 16, h => exact (Option.some.inj h) ▸ al_kk_X12_init
  | 17, h => exact (Option.some.inj h) ▸ al_kk_X12_internBuilt
  | 18, h => exact (Option.some.inj h) ▸ al_kk_X12_internTypes
  | 19, h => exact (Option.some.inj h) ▸ al_kk_X12_internNames
  | 20, h => exact (Option.some.inj h) ▸ al_kk_X12_hidden
  | 21, h => exact (Option.some.inj h) ▸ al_kk_X12_word
  | 22, h => exact (Option.some.inj h) ▸ al_kk_X12_intern
  | 23, h => exact (Option.some.inj h) ▸ al_kk_X12_hashOf
  | 24, h => exact (Option.some.inj h) ▸ al_kk_X12_compile
  | 25, h => exact (Option.some.inj h) ▸ al_kk_X12_forgetFrom
  | 26, h => exact (Option.some.inj h) ▸ al_kk_X12_readTokens
  | 27, h => exact (Option.some.inj h) ▸ al_kk_X12_skip
  | 28, h => exact (Option.some.inj h) ▸ al_kk_X12_at
  | 29, h => exact (Option.some.inj h) ▸ al_kk_X12_readText
  | 30, h => exact (Option.some.inj h) ▸ al_kk_X12_emit
  | 31, h => exact (Option.some.inj h) ▸ al_kk_X12_later
  | 32, h => exact (Option.some.inj h) ▸ al_kk_X12_goOn
  | 33, h => exact (Option.some.inj h) ▸ al_kk_X12_readBlock
  | 34, h => exact (Option.some.inj h) ▸ al_kk_X12_isWord
  | 35, h => exact (Option.some.inj h) ▸ al_kk_X12_beginsStatement
  | 36, h => exact (Option.some.inj h) ▸ al_kk_X12_isSign
  | 37, h => exact (Option.some.inj h) ▸ al_kk_X12_goOnStatement
  | 38, h => exact (Option.some.inj h) ▸ al_kk_X12_reload
  | 39, h => exact (Option.some.inj h) ▸ al_kk_X12_fill
  | 40, h => exact (Option.some.inj h) ▸ al_kk_X12_set
  | 41, h => exact (Option.some.inj h) ▸ al_kk_X12_placeOf
  | 42, h => exact (Option.some.inj h) ▸ al_kk_X12_keyHash
  | 43, h => exact (Option.some.inj h) ▸ al_kk_X12_object
  | 44, h => exact (Option.some.inj h) ▸ al_kk_X12_how
  | 45, h => exact (Option.some.inj h) ▸ al_kk_X12_openFrame
  | 46, h => exact (Option.some.inj h) ▸ al_kk_X12_forget
  | 47, h => exact (Option.some.inj h) ▸ al_kk_X11_init
  | 48, h => exact (Option.some.inj h) ▸ al_kk_X11_compile
  | 49, h => exact (Option.some.inj h) ▸ al_kk_X11_forget
  | 50, h => exact (Option.some.inj h) ▸ al_kk_X8_init
  | 51, h => exact (Option.some.inj h) ▸ al_kk_X8_keepNames
  | 52, h => exact (Option.some.inj h) ▸ al_kk_X8_dropText
  | 53, h => exact (Option.some.inj h) ▸ al_kk_X8_dropMade
  | 54, h => exact (Option.some.inj h) ▸ al_kk_X8_cutTo
  | 55, h => exact (Option.some.inj h) ▸ al_kk_X6_init
  | 56, h => exact (Option.some.inj h) ▸ al_kk_X6_clear
  | 57, h => exact (Option.some.inj h) ▸ al_kk_X6_addFunction
  | 58, h => exact (Option.some.inj h) ▸ al_kk_X6_emit
  | 59, h => exact (Option.some.inj h) ▸ al_kk_X9_init
  | 60, h => exact (Option.some.inj h) ▸ al_kk_X9_clear
  | 61, h => exact (Option.some.inj h) ▸ al_kk_X9_open
  | 62, h => exact (Option.some.inj h) ▸ al_kk_X9_find
  | 63, h => exact (Option.some.inj h) ▸ al_kk_X9_put
  | 64, h => exact (Option.some.inj h) ▸ al_kk_X9_add
  | 65, h => exact (Option.some.inj h) ▸ al_kk_X3_init
  | 66, h => exact (Option.some.inj h) ▸ al_kk_X3_clear
  | 67, h => exact (Option.some.inj h) ▸ al_kk_X3_make
  | 68, h => exact (Option.some.inj h) ▸ al_kk_X5_init
  | 69, h => exact (Option.some.inj h) ▸ al_kk_X5_open
  | 70, h => exact (Option.some.inj h) ▸ al_kk_X5_enter
  | 71, h => exact (Option.some.inj h) ▸ al_kk_X10_init
  | 72, h => exact (Option.some.inj h) ▸ al_kk_X10_open
  | 73, h => exact (Option.some.inj h) ▸ al_kk_X10_begin
  | 74, h => exact (Option.some.inj h) ▸ al_kk_X10_behindBlanks
  | 75, h => exact (Option.some.inj h) ▸ al_kk_X4_init
  | 76, h => exact (Option.some.inj h) ▸ al_kk_X4_judge
  | 77, h => exact (Option.some.inj h) ▸ al_kk_X4_next
  | 78, h => exact (Option.some.inj h) ▸ al_kk_X4_emit
  | 79, h => exact (Option.some.inj h) ▸ al_kk_X4_startsStatement
  | 80, h => exact (Option.some.inj h) ▸ al_kk_X4_block
  | 81, h => exact (Option.some.inj h) ▸ al_kk_X7_init
  | 82, h => exact (Option.some.inj h) ▸ al_kk_X7_clear
  | 83, h => exact (Option.some.inj h) ▸ al_kk_X7_enter
  | 84, h => exact (Option.some.inj h) ▸ al_kk_X7_height
  | 85, h => exact (Option.some.inj h) ▸ al_kk_X0_init
  | 86, h => exact (Option.some.inj h) ▸ al_kk_X0_clear
  | 87, h => exact (Option.some.inj h) ▸ al_kk_X2_init
  | 88, h => exact (Option.some.inj h) ▸ al_kk_X2_reset
  | 89, h => exact (Option.some.inj h) ▸ al_kk_X1_init
  | 90, h => exact (Option.some.inj h) ▸ al_kk_X1_keepNames
  | 91, h => exact (Option.some.inj h) ▸ al_kk_X1_furnish
  | 92, h => exact (Option.some.inj h) ▸ al_kk_X1_newTable
  | 93, h => exact (Option.some.inj h) ▸ al_kk_J0_indexOf_0f7a4
  | 94, h => exact (Option.some.inj h) ▸ al_kk_J0_indexOf_7cf53
  | 95, h => exact (Option.some.inj h) ▸ al_kk_J0_substring_b52d3
  | 96, h => exact (Option.some.inj h) ▸ al_kk_J0_substring_37a41
  | 97, h => exact (Option.some.inj h) ▸ al_kk_J0_init_031fb
  | 98, h => exact (Option.some.inj h) ▸ al_kk_J0_checkBoundsBeginEnd_23922
  | 99, h => exact (Option.some.inj h) ▸ al_kk_J1_canEncode_9a6ad
  | 100, h => exact (Option.some.inj h) ▸ al_kk_J1_indexOf_4cfef
  | 101, h => exact (Option.some.inj h) ▸ al_kk_J1_indexOfChar_4cfef
  | 102, h => exact (Option.some.inj h) ▸ al_kk_J1_newString_b4f7a
  | 103, h => exact (Option.some.inj h) ▸ al_kk_J3_checkFromToIndex_8c36e
  | 104, h => exact (Option.some.inj h) ▸ al_kk_J7_fill_53178
  | 105, h => exact (Option.some.inj h) ▸ al_kk_J7_fill_031fb
  | 106, h => exact (Option.some.inj h) ▸ al_kk_J7_checkLength_df160
  | 107, h => exact (Option.some.inj h) ▸ al_kk_J7_copyOfRange_39247
  | 108, h => exact (Option.some.inj h) ▸ al_kk_J7_copyOfRangeByte_39247
  | 109, h => exact (Option.some.inj h) ▸ al_kk_X4_refuse
  | 110, h => exact (Option.some.inj h) ▸ al_kk_X4_expect
  | 111, h => exact (Option.some.inj h) ▸ al_kk_X4_take
  | 112, h => exact (Option.some.inj h) ▸ al_kk_X4_push
  | 113, h => exact (Option.some.inj h) ▸ al_kk_X4_cut
  | 114, h => exact (Option.some.inj h) ▸ al_kk_X4_startsExpression
  | 115, h => exact (Option.some.inj h) ▸ al_kk_X4_closedBlock
  | 116, h => exact (Option.some.inj h) ▸ al_kk_X4_statement
  | 117, h => exact (Option.some.inj h) ▸ al_kk_X4_returnStatement
  | 118, h => exact (Option.some.inj h) ▸ al_kk_X4_breakStatement
  | 119, h => exact (Option.some.inj h) ▸ al_kk_X4_whileStatement
  | 120, h => exact (Option.some.inj h) ▸ al_kk_X4_endLoop
  | 121, h => exact (Option.some.inj h) ▸ al_kk_X4_repeatStatement
  | 122, h => exact (Option.some.inj h) ▸ al_kk_X4_ifStatement
  | 123, h => exact (Option.some.inj h) ▸ al_kk_X4_condition
  | 124, h => exact (Option.some.inj h) ▸ al_kk_X4_newName
  | 125, h => exact (Option.some.inj h) ▸ al_kk_X4_moreNames
  | 126, h => exact (Option.some.inj h) ▸ al_kk_X4_forStatement
  | 127, h => exact (Option.some.inj h) ▸ al_kk_X4_countingFor
  | 128, h => exact (Option.some.inj h) ▸ al_kk_X4_rowFor
  | 129, h => exact (Option.some.inj h) ▸ al_kk_X4_adjust
  | 130, h => exact (Option.some.inj h) ▸ al_kk_X4_localStatement
  | 131, h => exact (Option.some.inj h) ▸ al_kk_X4_functionStatement
  | 132, h => exact (Option.some.inj h) ▸ al_kk_X4_cutIfNeeded
  | 133, h => exact (Option.some.inj h) ▸ al_kk_X4_startName
  | 134, h => exact (Option.some.inj h) ▸ al_kk_X4_fieldName
  | 135, h => exact (Option.some.inj h) ▸ al_kk_X4_keyName
  | 136, h => exact (Option.some.inj h) ▸ al_kk_X4_readTail
  | 137, h => exact (Option.some.inj h) ▸ al_kk_X4_chain
  | 138, h => exact (Option.some.inj h) ▸ al_kk_X4_link
  | 139, h => exact (Option.some.inj h) ▸ al_kk_X4_given
  | 140, h => exact (Option.some.inj h) ▸ al_kk_X4_chainStatement
  | 141, h => exact (Option.some.inj h) ▸ al_kk_X4_assignment
  | 142, h => exact (Option.some.inj h) ▸ al_kk_X4_notePlace
  | 143, h => exact (Option.some.inj h) ▸ al_kk_X4_assign
  | 144, h => exact (Option.some.inj h) ▸ al_kk_X4_row
  | 145, h => exact (Option.some.inj h) ▸ al_kk_X4_strength
  | 146, h => exact (Option.some.inj h) ▸ al_kk_X4_unary
  | 147, h => exact (Option.some.inj h) ▸ al_kk_X4_binary
  | 148, h => exact (Option.some.inj h) ▸ al_kk_X4_expression
  | 149, h => exact (Option.some.inj h) ▸ al_kk_X4_operation
  | 150, h => exact (Option.some.inj h) ▸ al_kk_X4_operand
  | 151, h => exact (Option.some.inj h) ▸ al_kk_X4_table
  | 152, h => exact (Option.some.inj h) ▸ al_kk_X4_separator
  | 153, h => exact (Option.some.inj h) ▸ al_kk_X4_keyedField
  | 154, h => exact (Option.some.inj h) ▸ al_kk_X4_itemField
  | 155, h => exact (Option.some.inj h) ▸ al_kk_X4_body
  | 156, h => exact (Option.some.inj h) ▸ al_kk_X4_parameters
  | 157, h => exact (Option.some.inj h) ▸ al_kk_X6_addWhole
  | 158, h => exact (Option.some.inj h) ▸ al_kk_X6_wantOfLast
  | 159, h => exact (Option.some.inj h) ▸ al_kk_X6_land
  | 160, h => exact (Option.some.inj h) ▸ al_kk_X7_leave
  | 161, h => exact (Option.some.inj h) ▸ al_kk_X7_current
  | 162, h => exact (Option.some.inj h) ▸ al_kk_X7_setHeight
  | 163, h => exact (Option.some.inj h) ▸ al_kk_X7_rise
  | 164, h => exact (Option.some.inj h) ▸ al_kk_X7_breaks
  | 165, h => exact (Option.some.inj h) ▸ al_kk_X7_setBreaks
  | 166, h => exact (Option.some.inj h) ▸ al_kk_X7_hide
  | 167, h => exact (Option.some.inj h) ▸ al_kk_X7_reveal
  | 168, h => exact (Option.some.inj h) ▸ al_kk_X7_close
  | 169, h => exact (Option.some.inj h) ▸ al_kk_X7_resolve
  | 170, h => exact (Option.some.inj h) ▸ al_kk_X7_slotOf
  | 171, h => exact (Option.some.inj h) ▸ al_kk_X7_capturedOf
  | 172, h => exact (Option.some.inj h) ▸ al_kk_X8_lengthOf
  | 173, h => exact (Option.some.inj h) ▸ al_kk_X8_byteOf
  | 174, h => exact (Option.some.inj h) ▸ al_kk_X8_has
  | 175, h => exact (Option.some.inj h) ▸ al_kk_X8_compare
  | 176, h => exact (Option.some.inj h) ▸ al_kk_X8_rowLength
  | 177, h => exact (Option.some.inj h) ▸ al_kk_X8_rowByte
  | 178, h => exact (Option.some.inj h) ▸ al_kk_X8_putPiece
  | 179, h => exact (Option.some.inj h) ▸ al_kk_X8_putString
  | 180, h => exact (Option.some.inj h) ▸ al_kk_X8_putWhole
  | 181, h => exact (Option.some.inj h) ▸ al_kk_X8_keepTextual
  | 182, h => exact (Option.some.inj h) ▸ al_kk_X8_wordOfRow
  | 183, h => exact (Option.some.inj h) ▸ al_kk_X8_make
  | 184, h => exact (Option.some.inj h) ▸ al_kk_X10_stop
  | 185, h => exact (Option.some.inj h) ▸ al_kk_X10_assignFollows
  | 186, h => exact (Option.some.inj h) ▸ al_kk_X10_byteAt
  | 187, h => exact (Option.some.inj h) ▸ al_kk_X10_isDigit
  | 188, h => exact (Option.some.inj h) ▸ al_kk_X10_isLetter
  | 189, h => exact (Option.some.inj h) ▸ al_kk_X10_hexDigit
  | 190, h => exact (Option.some.inj h) ▸ al_kk_X10_scanName
  | 191, h => exact (Option.some.inj h) ▸ al_kk_X10_scanNumber
  | 192, h => exact (Option.some.inj h) ▸ al_kk_X10_scanQuoted
  | 193, h => exact (Option.some.inj h) ▸ al_kk_X10_escape
  | 194, h => exact (Option.some.inj h) ▸ al_kk_X10_scanSign
  | 195, h => exact (Option.some.inj h) ▸ al_kk_X10_pairOf
  | 196, h => exact (Option.some.inj h) ▸ al_kk_X12_lineOf
  | 197, h => exact (Option.some.inj h) ▸ al_kk_X12_isLetter
  | 198, h => exact (Option.some.inj h) ▸ al_kk_X12_isDigit
  | 199, h => exact (Option.some.inj h) ▸ al_kk_X12_hex
  | 200, h => exact (Option.some.inj h) ▸ al_kk_X12_wordAt
  | 201, h => exact (Option.some.inj h) ▸ al_kk_X12_wordBehind
  | 202, h => exact (Option.some.inj h) ▸ al_kk_X12_readName
  | 203, h => exact (Option.some.inj h) ▸ al_kk_X12_readWhole
  | 204, h => exact (Option.some.inj h) ▸ al_kk_X12_escape
  | 205, h => exact (Option.some.inj h) ▸ al_kk_X12_readString
  | 206, h => exact (Option.some.inj h) ▸ al_kk_X12_pair
  | 207, h => exact (Option.some.inj h) ▸ al_kk_X12_isAlone
  | 208, h => exact (Option.some.inj h) ▸ al_kk_X12_readSign
  | 209, h => exact (Option.some.inj h) ▸ al_kk_X12_fail
  | 210, h => exact (Option.some.inj h) ▸ al_kk_X12_here
  | 211, h => exact (Option.some.inj h) ▸ al_kk_X12_wrong
  | 212, h => exact (Option.some.inj h) ▸ al_kk_X12_take
  | 213, h => exact (Option.some.inj h) ▸ al_kk_X12_needSign
  | 214, h => exact (Option.some.inj h) ▸ al_kk_X12_needWord
  | 215, h => exact (Option.some.inj h) ▸ al_kk_X12_lineHere
  | 216, h => exact (Option.some.inj h) ▸ al_kk_X12_enter
  | 217, h => exact (Option.some.inj h) ▸ al_kk_X12_beginsE
  | 218, h => exact (Option.some.inj h) ▸ al_kk_X12_proto
  | 219, h => exact (Option.some.inj h) ▸ al_kk_X12_countLocal
  | 220, h => exact (Option.some.inj h) ▸ al_kk_X12_know
  | 221, h => exact (Option.some.inj h) ▸ al_kk_X12_captured
  | 222, h => exact (Option.some.inj h) ▸ al_kk_X12_resolve
  | 223, h => exact (Option.some.inj h) ▸ al_kk_X12_discharge
  | 224, h => exact (Option.some.inj h) ▸ al_kk_X12_block
  | 225, h => exact (Option.some.inj h) ▸ al_kk_X12_endScope
  | 226, h => exact (Option.some.inj h) ▸ al_kk_X12_statement
  | 227, h => exact (Option.some.inj h) ▸ al_kk_X12_openLoop
  | 228, h => exact (Option.some.inj h) ▸ al_kk_X12_closeLoop
  | 229, h => exact (Option.some.inj h) ▸ al_kk_X12_readBreak
  | 230, h => exact (Option.some.inj h) ▸ al_kk_X12_readLocal
  | 231, h => exact (Option.some.inj h) ▸ al_kk_X12_localRow
  | 232, h => exact (Option.some.inj h) ▸ al_kk_X12_readFunction
  | 233, h => exact (Option.some.inj h) ▸ al_kk_X12_readFor
  | 234, h => exact (Option.some.inj h) ▸ al_kk_X12_leftOf
  | 235, h => exact (Option.some.inj h) ▸ al_kk_X12_strength
  | 236, h => exact (Option.some.inj h) ▸ al_kk_X12_readE
  | 237, h => exact (Option.some.inj h) ▸ al_kk_X12_constant
  | 238, h => exact (Option.some.inj h) ▸ al_kk_X12_operand
  | 239, h => exact (Option.some.inj h) ▸ al_kk_X12_readOps
  | 240, h => exact (Option.some.inj h) ▸ al_kk_X12_eventOf
  | 241, h => exact (Option.some.inj h) ▸ al_kk_X12_binary
  | 242, h => exact (Option.some.inj h) ▸ al_kk_X12_unary
  | 243, h => exact (Option.some.inj h) ▸ al_kk_X12_chain
  | 244, h => exact (Option.some.inj h) ▸ al_kk_X12_beginsGiven
  | 245, h => exact (Option.some.inj h) ▸ al_kk_X12_suffix
  | 246, h => exact (Option.some.inj h) ▸ al_kk_X12_given
  | 247, h => exact (Option.some.inj h) ▸ al_kk_X12_row
  | 248, h => exact (Option.some.inj h) ▸ al_kk_X12_table
  | 249, h => exact (Option.some.inj h) ▸ al_kk_X12_fields
  | 250, h => exact (Option.some.inj h) ▸ al_kk_X12_isParting
  | 251, h => exact (Option.some.inj h) ▸ al_kk_X12_keyed
  | 252, h => exact (Option.some.inj h) ▸ al_kk_X12_positional
  | 253, h => exact (Option.some.inj h) ▸ al_kk_X12_body
  | 254, h => exact (Option.some.inj h) ▸ al_kk_X12_parameters
  | 255, h => exact (Option.some.inj h) ▸ al_kk_X12_bodyEnd
  | 256, h => exact (Option.some.inj h) ▸ al_kk_X12_afterChain
  | 257, h => exact (Option.some.inj h) ▸ al_kk_X12_assign
  | 258, h => exact (Option.some.inj h) ▸ al_kk_X12_then
  | 259, h => exact (Option.some.inj h) ▸ al_kk_X12_afterIf
  | 260, h => exact (Option.some.inj h) ▸ al_kk_X12_endIf
  | 261, h => exact (Option.some.inj h) ▸ al_kk_X12_whileDo
  | 262, h => exact (Option.some.inj h) ▸ al_kk_X12_whileEnd
  | 263, h => exact (Option.some.inj h) ▸ al_kk_X12_until
  | 264, h => exact (Option.some.inj h) ▸ al_kk_X12_untilEnd
  | 265, h => exact (Option.some.inj h) ▸ al_kk_X12_forTwo
  | 266, h => exact (Option.some.inj h) ▸ al_kk_X12_forThree
  | 267, h => exact (Option.some.inj h) ▸ al_kk_X12_forDo
  | 268, h => exact (Option.some.inj h) ▸ al_kk_X12_forEnd
  | 269, h => exact (Option.some.inj h) ▸ al_kk_X12_inDo
  | 270, h => exact (Option.some.inj h) ▸ al_kk_X12_inEnd
  | 271, h => exact (Option.some.inj h) ▸ al_kk_X12_returned
  | 272, h => exact (Option.some.inj h) ▸ al_kk_X12_functionDone
  | 273, h => exact (Option.some.inj h) ▸ al_kk_X12_closeParen
  | 274, h => exact (Option.some.inj h) ▸ al_kk_X12_closeBracket
  | 275, h => exact (Option.some.inj h) ▸ al_kk_X12_chainValue
  | 276, h => exact (Option.some.inj h) ▸ al_kk_X12_called
  | n + 277, h =>
    have := (List.getElem?_eq_some_iff.mp h).1
    have e : al_mtK.length = 277 := rfl
    omega
theorem al_Tab : ev_Tab al_W0 al_WN al_cl al_dfl al_tyf (al_mk.map Prod.fst) "TableTongue$Part" := ev_Tab_of al_ckAll
set_option maxRecDepth 100000 in
theorem al_mt_eq : al_mk.map Prod.fst = al_mtK.map ev_unM := rfl
theorem al_c1 : ∃ T1 : u_T, al_cl[1]? = some ("java/lang/String", T1, 2) := ⟨al_TS2, rfl⟩
abbrev al_mt : List ev_Me := al_mtK.map ev_unM
set_option maxRecDepth 100000 in
/-- what the evaluator says holds on the machine -/
theorem al_cal (l : Launch) (D : va_G) (ka : ev_KA) (d : Nat) : ev_Cal l D al_cl al_dfl al_tyf ka "TableTongue$Part" al_W0 al_WN al_mt [] d (ev_met 0 al_dfl al_mt d) := by
  have h := ev_met_ok (l := l) (D := D) (ka := ka) (oc := "TableTongue$Part") (wsR := []) al_good (fun w hw hn => ev_W1_of hw hn) al_Cls al_c1 al_Tab d
  rw [al_mt_eq] at h
  exact h
