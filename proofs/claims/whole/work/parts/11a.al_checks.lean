/-! ===== 11a: the tables checked ===== -/
set_option maxRecDepth 100000 in
theorem al_ck_X8_put : ev_ckMe al_more al_cl al_dfl al_tyf al_mk "TableTongue$Part" (ev_unM al_mX8_put, 0) = true := by decide +kernel
theorem al_kk_X8_put : ev_ckK al_mX8_put.2.2.2.2 = true := by decide +kernel
set_option maxRecDepth 100000 in
theorem al_ck_J0_coder_7d493 : ev_ckMe al_more al_cl al_dfl al_tyf al_mk "TableTongue$Part" (ev_unM al_mJ0_coder_7d493, 0) = true := by decide +kernel
theorem al_kk_J0_coder_7d493 : ev_ckK al_mJ0_coder_7d493.2.2.2.2 = true := by decide +kernel
set_option maxRecDepth 100000 in
theorem al_ck_X8_keepLatent : ev_ckMe al_more al_cl al_dfl al_tyf al_mk "TableTongue$Part" (ev_unM al_mX8_keepLatent, 0) = true := by decide +kernel
theorem al_kk_X8_keepLatent : ev_ckK al_mX8_keepLatent.2.2.2.2 = true := by decide +kernel
set_option maxRecDepth 100000 in
theorem al_ck_X8_putWords : ev_ckMe al_more al_cl al_dfl al_tyf al_mk "TableTongue$Part" (ev_unM al_mX8_putWords, 0) = true := by decide +kernel
theorem al_kk_X8_putWords : ev_ckK al_mX8_putWords.2.2.2.2 = true := by decide +kernel
set_option maxRecDepth 100000 in
theorem al_ck_X1_fixed : ev_ckMe al_more al_cl al_dfl al_tyf al_mk "TableTongue$Part" (ev_unM al_mX1_fixed, 0) = true := by decide +kernel
theorem al_kk_X1_fixed : ev_ckK al_mX1_fixed.2.2.2.2 = true := by decide +kernel
set_option maxRecDepth 100000 in
theorem al_ck_X12_hidden : ev_ckMe al_more al_cl al_dfl al_tyf al_mk "TableTongue$Part" (ev_unM al_mX12_hidden, 0) = true := by decide +kernel
theorem al_kk_X12_hidden : ev_ckK al_mX12_hidden.2.2.2.2 = true := by decide +kernel
set_option maxRecDepth 100000 in
theorem al_ck_X12_word : ev_ckMe al_more al_cl al_dfl al_tyf al_mk "TableTongue$Part" (ev_unM al_mX12_word, 0) = true := by decide +kernel
theorem al_kk_X12_word : ev_ckK al_mX12_word.2.2.2.2 = true := by decide +kernel
set_option maxRecDepth 100000 in
theorem al_ck_X12_intern : ev_ckMe al_more al_cl al_dfl al_tyf al_mk "TableTongue$Part" (ev_unM al_mX12_intern, 0) = true := by decide +kernel
theorem al_kk_X12_intern : ev_ckK al_mX12_intern.2.2.2.2 = true := by decide +kernel
set_option maxRecDepth 100000 in
theorem al_ck_X12_readText : ev_ckMe al_more al_cl al_dfl al_tyf al_mk "TableTongue$Part" (ev_unM al_mX12_readText, 0) = true := by decide +kernel
theorem al_kk_X12_readText : ev_ckK al_mX12_readText.2.2.2.2 = true := by decide +kernel
set_option maxRecDepth 100000 in
theorem al_ck_X12_isSign : ev_ckMe al_more al_cl al_dfl al_tyf al_mk "TableTongue$Part" (ev_unM al_mX12_isSign, 0) = true := by decide +kernel
theorem al_kk_X12_isSign : ev_ckK al_mX12_isSign.2.2.2.2 = true := by decide +kernel
set_option maxRecDepth 100000 in
theorem al_ck_X12_reload : ev_ckMe al_more al_cl al_dfl al_tyf al_mk "TableTongue$Part" (ev_unM al_mX12_reload, 0) = true := by decide +kernel
theorem al_kk_X12_reload : ev_ckK al_mX12_reload.2.2.2.2 = true := by decide +kernel
set_option maxRecDepth 100000 in
theorem al_ck_X11_compile : ev_ckMe al_more al_cl al_dfl al_tyf al_mk "TableTongue$Part" (ev_unM al_mX11_compile, 0) = true := by decide +kernel
theorem al_kk_X11_compile : ev_ckK al_mX11_compile.2.2.2.2 = true := by decide +kernel
set_option maxRecDepth 100000 in
theorem al_ck_X11_forget : ev_ckMe al_more al_cl al_dfl al_tyf al_mk "TableTongue$Part" (ev_unM al_mX11_forget, 0) = true := by decide +kernel
theorem al_kk_X11_forget : ev_ckK al_mX11_forget.2.2.2.2 = true := by decide +kernel
set_option maxRecDepth 100000 in
theorem al_ck_X8_init : ev_ckMe al_more al_cl al_dfl al_tyf al_mk "TableTongue$Part" (ev_unM al_mX8_init, 2) = true := by decide +kernel
theorem al_kk_X8_init : ev_ckK al_mX8_init.2.2.2.2 = true := by decide +kernel
set_option maxRecDepth 100000 in
theorem al_ck_X6_init : ev_ckMe al_more al_cl al_dfl al_tyf al_mk "TableTongue$Part" (ev_unM al_mX6_init, 2) = true := by decide +kernel
theorem al_kk_X6_init : ev_ckK al_mX6_init.2.2.2.2 = true := by decide +kernel
set_option maxRecDepth 100000 in
theorem al_ck_X9_clear : ev_ckMe al_more al_cl al_dfl al_tyf al_mk "TableTongue$Part" (ev_unM al_mX9_clear, 0) = true := by decide +kernel
theorem al_kk_X9_clear : ev_ckK al_mX9_clear.2.2.2.2 = true := by decide +kernel
set_option maxRecDepth 100000 in
theorem al_ck_X9_find : ev_ckMe al_more al_cl al_dfl al_tyf al_mk "TableTongue$Part" (ev_unM al_mX9_find, 0) = true := by decide +kernel
theorem al_kk_X9_find : ev_ckK al_mX9_find.2.2.2.2 = true := by decide +kernel
set_option maxRecDepth 100000 in
theorem al_ck_X3_clear : ev_ckMe al_more al_cl al_dfl al_tyf al_mk "TableTongue$Part" (ev_unM al_mX3_clear, 0) = true := by decide +kernel
theorem al_kk_X3_clear : ev_ckK al_mX3_clear.2.2.2.2 = true := by decide +kernel
set_option maxRecDepth 100000 in
theorem al_ck_X5_open : ev_ckMe al_more al_cl al_dfl al_tyf al_mk "TableTongue$Part" (ev_unM al_mX5_open, 0) = true := by decide +kernel
theorem al_kk_X5_open : ev_ckK al_mX5_open.2.2.2.2 = true := by decide +kernel
set_option maxRecDepth 100000 in
theorem al_ck_X10_begin : ev_ckMe al_more al_cl al_dfl al_tyf al_mk "TableTongue$Part" (ev_unM al_mX10_begin, 0) = true := by decide +kernel
theorem al_kk_X10_begin : ev_ckK al_mX10_begin.2.2.2.2 = true := by decide +kernel
set_option maxRecDepth 100000 in
theorem al_ck_X4_startsStatement : ev_ckMe al_more al_cl al_dfl al_tyf al_mk "TableTongue$Part" (ev_unM al_mX4_startsStatement, 0) = true := by decide +kernel
theorem al_kk_X4_startsStatement : ev_ckK al_mX4_startsStatement.2.2.2.2 = true := by decide +kernel
set_option maxRecDepth 100000 in
theorem al_ck_X7_init : ev_ckMe al_more al_cl al_dfl al_tyf al_mk "TableTongue$Part" (ev_unM al_mX7_init, 2) = true := by decide +kernel
theorem al_kk_X7_init : ev_ckK al_mX7_init.2.2.2.2 = true := by decide +kernel
set_option maxRecDepth 100000 in
theorem al_ck_X2_init : ev_ckMe al_more al_cl al_dfl al_tyf al_mk "TableTongue$Part" (ev_unM al_mX2_init, 2) = true := by decide +kernel
theorem al_kk_X2_init : ev_ckK al_mX2_init.2.2.2.2 = true := by decide +kernel
set_option maxRecDepth 100000 in
theorem al_ck_X1_furnish : ev_ckMe al_more al_cl al_dfl al_tyf al_mk "TableTongue$Part" (ev_unM al_mX1_furnish, 0) = true := by decide +kernel
theorem al_kk_X1_furnish : ev_ckK al_mX1_furnish.2.2.2.2 = true := by decide +kernel
set_option maxRecDepth 100000 in
theorem al_ck_J0_init_031fb : ev_ckMe al_more al_cl al_dfl al_tyf al_mk "TableTongue$Part" (ev_unM al_mJ0_init_031fb, 2) = true := by decide +kernel
theorem al_kk_J0_init_031fb : ev_ckK al_mJ0_init_031fb.2.2.2.2 = true := by decide +kernel
set_option maxRecDepth 100000 in
theorem al_ck_J1_indexOf_4cfef : ev_ckMe al_more al_cl al_dfl al_tyf al_mk "TableTongue$Part" (ev_unM al_mJ1_indexOf_4cfef, 1) = true := by decide +kernel
theorem al_kk_J1_indexOf_4cfef : ev_ckK al_mJ1_indexOf_4cfef.2.2.2.2 = true := by decide +kernel
set_option maxRecDepth 100000 in
theorem al_ck_J7_copyOfRange_39247 : ev_ckMe al_more al_cl al_dfl al_tyf al_mk "TableTongue$Part" (ev_unM al_mJ7_copyOfRange_39247, 1) = true := by decide +kernel
theorem al_kk_J7_copyOfRange_39247 : ev_ckK al_mJ7_copyOfRange_39247.2.2.2.2 = true := by decide +kernel
set_option maxRecDepth 100000 in
theorem al_ck_X4_take : ev_ckMe al_more al_cl al_dfl al_tyf al_mk "TableTongue$Part" (ev_unM al_mX4_take, 0) = true := by decide +kernel
theorem al_kk_X4_take : ev_ckK al_mX4_take.2.2.2.2 = true := by decide +kernel
set_option maxRecDepth 100000 in
theorem al_ck_X4_cut : ev_ckMe al_more al_cl al_dfl al_tyf al_mk "TableTongue$Part" (ev_unM al_mX4_cut, 0) = true := by decide +kernel
theorem al_kk_X4_cut : ev_ckK al_mX4_cut.2.2.2.2 = true := by decide +kernel
set_option maxRecDepth 100000 in
theorem al_ck_X4_returnStatement : ev_ckMe al_more al_cl al_dfl al_tyf al_mk "TableTongue$Part" (ev_unM al_mX4_returnStatement, 0) = true := by decide +kernel
theorem al_kk_X4_returnStatement : ev_ckK al_mX4_returnStatement.2.2.2.2 = true := by decide +kernel
set_option maxRecDepth 100000 in
theorem al_ck_X4_repeatStatement : ev_ckMe al_more al_cl al_dfl al_tyf al_mk "TableTongue$Part" (ev_unM al_mX4_repeatStatement, 0) = true := by decide +kernel
theorem al_kk_X4_repeatStatement : ev_ckK al_mX4_repeatStatement.2.2.2.2 = true := by decide +kernel
set_option maxRecDepth 100000 in
theorem al_ck_X4_countingFor : ev_ckMe al_more al_cl al_dfl al_tyf al_mk "TableTongue$Part" (ev_unM al_mX4_countingFor, 0) = true := by decide +kernel
theorem al_kk_X4_countingFor : ev_ckK al_mX4_countingFor.2.2.2.2 = true := by decide +kernel
set_option maxRecDepth 100000 in
theorem al_ck_X4_cutIfNeeded : ev_ckMe al_more al_cl al_dfl al_tyf al_mk "TableTongue$Part" (ev_unM al_mX4_cutIfNeeded, 0) = true := by decide +kernel
theorem al_kk_X4_cutIfNeeded : ev_ckK al_mX4_cutIfNeeded.2.2.2.2 = true := by decide +kernel
set_option maxRecDepth 100000 in
theorem al_ck_X4_readTail : ev_ckMe al_more al_cl al_dfl al_tyf al_mk "TableTongue$Part" (ev_unM al_mX4_readTail, 0) = true := by decide +kernel
theorem al_kk_X4_readTail : ev_ckK al_mX4_readTail.2.2.2.2 = true := by decide +kernel
set_option maxRecDepth 100000 in
theorem al_ck_X4_chainStatement : ev_ckMe al_more al_cl al_dfl al_tyf al_mk "TableTongue$Part" (ev_unM al_mX4_chainStatement, 0) = true := by decide +kernel
theorem al_kk_X4_chainStatement : ev_ckK al_mX4_chainStatement.2.2.2.2 = true := by decide +kernel
set_option maxRecDepth 100000 in
theorem al_ck_X4_notePlace : ev_ckMe al_more al_cl al_dfl al_tyf al_mk "TableTongue$Part" (ev_unM al_mX4_notePlace, 0) = true := by decide +kernel
theorem al_kk_X4_notePlace : ev_ckK al_mX4_notePlace.2.2.2.2 = true := by decide +kernel
set_option maxRecDepth 100000 in
theorem al_ck_X4_unary : ev_ckMe al_more al_cl al_dfl al_tyf al_mk "TableTongue$Part" (ev_unM al_mX4_unary, 0) = true := by decide +kernel
theorem al_kk_X4_unary : ev_ckK al_mX4_unary.2.2.2.2 = true := by decide +kernel
set_option maxRecDepth 100000 in
theorem al_ck_X4_operand : ev_ckMe al_more al_cl al_dfl al_tyf al_mk "TableTongue$Part" (ev_unM al_mX4_operand, 0) = true := by decide +kernel
theorem al_kk_X4_operand : ev_ckK al_mX4_operand.2.2.2.2 = true := by decide +kernel
set_option maxRecDepth 100000 in
theorem al_ck_X4_body : ev_ckMe al_more al_cl al_dfl al_tyf al_mk "TableTongue$Part" (ev_unM al_mX4_body, 0) = true := by decide +kernel
theorem al_kk_X4_body : ev_ckK al_mX4_body.2.2.2.2 = true := by decide +kernel
set_option maxRecDepth 100000 in
theorem al_ck_X7_breaks : ev_ckMe al_more al_cl al_dfl al_tyf al_mk "TableTongue$Part" (ev_unM al_mX7_breaks, 0) = true := by decide +kernel
theorem al_kk_X7_breaks : ev_ckK al_mX7_breaks.2.2.2.2 = true := by decide +kernel
set_option maxRecDepth 100000 in
theorem al_ck_X7_close : ev_ckMe al_more al_cl al_dfl al_tyf al_mk "TableTongue$Part" (ev_unM al_mX7_close, 0) = true := by decide +kernel
theorem al_kk_X7_close : ev_ckK al_mX7_close.2.2.2.2 = true := by decide +kernel
set_option maxRecDepth 100000 in
theorem al_ck_X7_capturedOf : ev_ckMe al_more al_cl al_dfl al_tyf al_mk "TableTongue$Part" (ev_unM al_mX7_capturedOf, 0) = true := by decide +kernel
theorem al_kk_X7_capturedOf : ev_ckK al_mX7_capturedOf.2.2.2.2 = true := by decide +kernel
set_option maxRecDepth 100000 in
theorem al_ck_X8_byteOf : ev_ckMe al_more al_cl al_dfl al_tyf al_mk "TableTongue$Part" (ev_unM al_mX8_byteOf, 0) = true := by decide +kernel
theorem al_kk_X8_byteOf : ev_ckK al_mX8_byteOf.2.2.2.2 = true := by decide +kernel
set_option maxRecDepth 100000 in
theorem al_ck_X8_rowLength : ev_ckMe al_more al_cl al_dfl al_tyf al_mk "TableTongue$Part" (ev_unM al_mX8_rowLength, 0) = true := by decide +kernel
theorem al_kk_X8_rowLength : ev_ckK al_mX8_rowLength.2.2.2.2 = true := by decide +kernel
set_option maxRecDepth 100000 in
theorem al_ck_X8_putPiece : ev_ckMe al_more al_cl al_dfl al_tyf al_mk "TableTongue$Part" (ev_unM al_mX8_putPiece, 0) = true := by decide +kernel
theorem al_kk_X8_putPiece : ev_ckK al_mX8_putPiece.2.2.2.2 = true := by decide +kernel
set_option maxRecDepth 100000 in
theorem al_ck_X8_make : ev_ckMe al_more al_cl al_dfl al_tyf al_mk "TableTongue$Part" (ev_unM al_mX8_make, 0) = true := by decide +kernel
theorem al_kk_X8_make : ev_ckK al_mX8_make.2.2.2.2 = true := by decide +kernel
set_option maxRecDepth 100000 in
theorem al_ck_X10_hexDigit : ev_ckMe al_more al_cl al_dfl al_tyf al_mk "TableTongue$Part" (ev_unM al_mX10_hexDigit, 1) = true := by decide +kernel
theorem al_kk_X10_hexDigit : ev_ckK al_mX10_hexDigit.2.2.2.2 = true := by decide +kernel
set_option maxRecDepth 100000 in
theorem al_ck_X10_escape : ev_ckMe al_more al_cl al_dfl al_tyf al_mk "TableTongue$Part" (ev_unM al_mX10_escape, 0) = true := by decide +kernel
theorem al_kk_X10_escape : ev_ckK al_mX10_escape.2.2.2.2 = true := by decide +kernel
set_option maxRecDepth 100000 in
theorem al_ck_X12_lineOf : ev_ckMe al_more al_cl al_dfl al_tyf al_mk "TableTongue$Part" (ev_unM al_mX12_lineOf, 0) = true := by decide +kernel
theorem al_kk_X12_lineOf : ev_ckK al_mX12_lineOf.2.2.2.2 = true := by decide +kernel
set_option maxRecDepth 100000 in
theorem al_ck_X12_wordAt : ev_ckMe al_more al_cl al_dfl al_tyf al_mk "TableTongue$Part" (ev_unM al_mX12_wordAt, 0) = true := by decide +kernel
theorem al_kk_X12_wordAt : ev_ckK al_mX12_wordAt.2.2.2.2 = true := by decide +kernel
set_option maxRecDepth 100000 in
theorem al_ck_X12_readString : ev_ckMe al_more al_cl al_dfl al_tyf al_mk "TableTongue$Part" (ev_unM al_mX12_readString, 0) = true := by decide +kernel
theorem al_kk_X12_readString : ev_ckK al_mX12_readString.2.2.2.2 = true := by decide +kernel
set_option maxRecDepth 100000 in
theorem al_ck_X12_wrong : ev_ckMe al_more al_cl al_dfl al_tyf al_mk "TableTongue$Part" (ev_unM al_mX12_wrong, 0) = true := by decide +kernel
theorem al_kk_X12_wrong : ev_ckK al_mX12_wrong.2.2.2.2 = true := by decide +kernel
set_option maxRecDepth 100000 in
theorem al_ck_X12_needWord : ev_ckMe al_more al_cl al_dfl al_tyf al_mk "TableTongue$Part" (ev_unM al_mX12_needWord, 0) = true := by decide +kernel
theorem al_kk_X12_needWord : ev_ckK al_mX12_needWord.2.2.2.2 = true := by decide +kernel
set_option maxRecDepth 100000 in
theorem al_ck_X12_enter : ev_ckMe al_more al_cl al_dfl al_tyf al_mk "TableTongue$Part" (ev_unM al_mX12_enter, 0) = true := by decide +kernel
theorem al_kk_X12_enter : ev_ckK al_mX12_enter.2.2.2.2 = true := by decide +kernel
set_option maxRecDepth 100000 in
theorem al_ck_X12_captured : ev_ckMe al_more al_cl al_dfl al_tyf al_mk "TableTongue$Part" (ev_unM al_mX12_captured, 0) = true := by decide +kernel
theorem al_kk_X12_captured : ev_ckK al_mX12_captured.2.2.2.2 = true := by decide +kernel
set_option maxRecDepth 100000 in
theorem al_ck_X12_openLoop : ev_ckMe al_more al_cl al_dfl al_tyf al_mk "TableTongue$Part" (ev_unM al_mX12_openLoop, 0) = true := by decide +kernel
theorem al_kk_X12_openLoop : ev_ckK al_mX12_openLoop.2.2.2.2 = true := by decide +kernel
set_option maxRecDepth 100000 in
theorem al_ck_X12_readLocal : ev_ckMe al_more al_cl al_dfl al_tyf al_mk "TableTongue$Part" (ev_unM al_mX12_readLocal, 0) = true := by decide +kernel
theorem al_kk_X12_readLocal : ev_ckK al_mX12_readLocal.2.2.2.2 = true := by decide +kernel
set_option maxRecDepth 100000 in
theorem al_ck_X12_constant : ev_ckMe al_more al_cl al_dfl al_tyf al_mk "TableTongue$Part" (ev_unM al_mX12_constant, 0) = true := by decide +kernel
theorem al_kk_X12_constant : ev_ckK al_mX12_constant.2.2.2.2 = true := by decide +kernel
set_option maxRecDepth 100000 in
theorem al_ck_X12_readOps : ev_ckMe al_more al_cl al_dfl al_tyf al_mk "TableTongue$Part" (ev_unM al_mX12_readOps, 0) = true := by decide +kernel
theorem al_kk_X12_readOps : ev_ckK al_mX12_readOps.2.2.2.2 = true := by decide +kernel
set_option maxRecDepth 100000 in
theorem al_ck_X12_chain : ev_ckMe al_more al_cl al_dfl al_tyf al_mk "TableTongue$Part" (ev_unM al_mX12_chain, 0) = true := by decide +kernel
theorem al_kk_X12_chain : ev_ckK al_mX12_chain.2.2.2.2 = true := by decide +kernel
set_option maxRecDepth 100000 in
theorem al_ck_X12_row : ev_ckMe al_more al_cl al_dfl al_tyf al_mk "TableTongue$Part" (ev_unM al_mX12_row, 0) = true := by decide +kernel
theorem al_kk_X12_row : ev_ckK al_mX12_row.2.2.2.2 = true := by decide +kernel
set_option maxRecDepth 100000 in
theorem al_ck_X12_isParting : ev_ckMe al_more al_cl al_dfl al_tyf al_mk "TableTongue$Part" (ev_unM al_mX12_isParting, 0) = true := by decide +kernel
theorem al_kk_X12_isParting : ev_ckK al_mX12_isParting.2.2.2.2 = true := by decide +kernel
set_option maxRecDepth 100000 in
theorem al_ck_X12_positional : ev_ckMe al_more al_cl al_dfl al_tyf al_mk "TableTongue$Part" (ev_unM al_mX12_positional, 0) = true := by decide +kernel
theorem al_kk_X12_positional : ev_ckK al_mX12_positional.2.2.2.2 = true := by decide +kernel
set_option maxRecDepth 100000 in
theorem al_ck_X12_bodyEnd : ev_ckMe al_more al_cl al_dfl al_tyf al_mk "TableTongue$Part" (ev_unM al_mX12_bodyEnd, 0) = true := by decide +kernel
theorem al_kk_X12_bodyEnd : ev_ckK al_mX12_bodyEnd.2.2.2.2 = true := by decide +kernel
set_option maxRecDepth 100000 in
theorem al_ck_X12_then : ev_ckMe al_more al_cl al_dfl al_tyf al_mk "TableTongue$Part" (ev_unM al_mX12_then, 0) = true := by decide +kernel
theorem al_kk_X12_then : ev_ckK al_mX12_then.2.2.2.2 = true := by decide +kernel
set_option maxRecDepth 100000 in
theorem al_ck_X12_endIf : ev_ckMe al_more al_cl al_dfl al_tyf al_mk "TableTongue$Part" (ev_unM al_mX12_endIf, 0) = true := by decide +kernel
theorem al_kk_X12_endIf : ev_ckK al_mX12_endIf.2.2.2.2 = true := by decide +kernel
set_option maxRecDepth 100000 in
theorem al_ck_X12_whileDo : ev_ckMe al_more al_cl al_dfl al_tyf al_mk "TableTongue$Part" (ev_unM al_mX12_whileDo, 0) = true := by decide +kernel
theorem al_kk_X12_whileDo : ev_ckK al_mX12_whileDo.2.2.2.2 = true := by decide +kernel
set_option maxRecDepth 100000 in
theorem al_ck_X12_forTwo : ev_ckMe al_more al_cl al_dfl al_tyf al_mk "TableTongue$Part" (ev_unM al_mX12_forTwo, 0) = true := by decide +kernel
theorem al_kk_X12_forTwo : ev_ckK al_mX12_forTwo.2.2.2.2 = true := by decide +kernel
set_option maxRecDepth 100000 in
theorem al_ck_X12_inDo : ev_ckMe al_more al_cl al_dfl al_tyf al_mk "TableTongue$Part" (ev_unM al_mX12_inDo, 0) = true := by decide +kernel
theorem al_kk_X12_inDo : ev_ckK al_mX12_inDo.2.2.2.2 = true := by decide +kernel
set_option maxRecDepth 100000 in
theorem al_ck_X12_called : ev_ckMe al_more al_cl al_dfl al_tyf al_mk "TableTongue$Part" (ev_unM al_mX12_called, 0) = true := by decide +kernel
theorem al_kk_X12_called : ev_ckK al_mX12_called.2.2.2.2 = true := by decide +kernel
