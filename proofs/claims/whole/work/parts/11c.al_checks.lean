/-! ===== 11c: the tables checked ===== -/
set_option maxRecDepth 100000 in
theorem al_ck_J0_isLatin1_aae02 : ev_ckMe al_more al_cl al_dfl al_tyf al_mk "TableTongue$Part" (ev_unM al_mJ0_isLatin1_aae02, 0) = true := by decide +kernel
theorem al_kk_J0_isLatin1_aae02 : ev_ckK al_mJ0_isLatin1_aae02.2.2.2.2 = true := by decide +kernel
set_option maxRecDepth 100000 in
theorem al_ck_J0_checkIndex_df160 : ev_ckMe al_more al_cl al_dfl al_tyf al_mk "TableTongue$Part" (ev_unM al_mJ0_checkIndex_df160, 1) = true := by decide +kernel
theorem al_kk_J0_checkIndex_df160 : ev_ckK al_mJ0_checkIndex_df160.2.2.2.2 = true := by decide +kernel
set_option maxRecDepth 100000 in
theorem al_ck_X8_find : ev_ckMe al_more al_cl al_dfl al_tyf al_mk "TableTongue$Part" (ev_unM al_mX8_find, 0) = true := by decide +kernel
theorem al_kk_X8_find : ev_ckK al_mX8_find.2.2.2.2 = true := by decide +kernel
set_option maxRecDepth 100000 in
theorem al_ck_X12_internNames : ev_ckMe al_more al_cl al_dfl al_tyf al_mk "TableTongue$Part" (ev_unM al_mX12_internNames, 0) = true := by decide +kernel
theorem al_kk_X12_internNames : ev_ckK al_mX12_internNames.2.2.2.2 = true := by decide +kernel
set_option maxRecDepth 100000 in
theorem al_ck_X12_skip : ev_ckMe al_more al_cl al_dfl al_tyf al_mk "TableTongue$Part" (ev_unM al_mX12_skip, 0) = true := by decide +kernel
theorem al_kk_X12_skip : ev_ckK al_mX12_skip.2.2.2.2 = true := by decide +kernel
set_option maxRecDepth 100000 in
theorem al_ck_X12_later : ev_ckMe al_more al_cl al_dfl al_tyf al_mk "TableTongue$Part" (ev_unM al_mX12_later, 0) = true := by decide +kernel
theorem al_kk_X12_later : ev_ckK al_mX12_later.2.2.2.2 = true := by decide +kernel
set_option maxRecDepth 100000 in
theorem al_ck_X12_isWord : ev_ckMe al_more al_cl al_dfl al_tyf al_mk "TableTongue$Part" (ev_unM al_mX12_isWord, 0) = true := by decide +kernel
theorem al_kk_X12_isWord : ev_ckK al_mX12_isWord.2.2.2.2 = true := by decide +kernel
set_option maxRecDepth 100000 in
theorem al_ck_X12_beginsStatement : ev_ckMe al_more al_cl al_dfl al_tyf al_mk "TableTongue$Part" (ev_unM al_mX12_beginsStatement, 0) = true := by decide +kernel
theorem al_kk_X12_beginsStatement : ev_ckK al_mX12_beginsStatement.2.2.2.2 = true := by decide +kernel
set_option maxRecDepth 100000 in
theorem al_ck_X12_fill : ev_ckMe al_more al_cl al_dfl al_tyf al_mk "TableTongue$Part" (ev_unM al_mX12_fill, 0) = true := by decide +kernel
theorem al_kk_X12_fill : ev_ckK al_mX12_fill.2.2.2.2 = true := by decide +kernel
set_option maxRecDepth 100000 in
theorem al_ck_X12_placeOf : ev_ckMe al_more al_cl al_dfl al_tyf al_mk "TableTongue$Part" (ev_unM al_mX12_placeOf, 0) = true := by decide +kernel
theorem al_kk_X12_placeOf : ev_ckK al_mX12_placeOf.2.2.2.2 = true := by decide +kernel
set_option maxRecDepth 100000 in
theorem al_ck_X12_keyHash : ev_ckMe al_more al_cl al_dfl al_tyf al_mk "TableTongue$Part" (ev_unM al_mX12_keyHash, 1) = true := by decide +kernel
theorem al_kk_X12_keyHash : ev_ckK al_mX12_keyHash.2.2.2.2 = true := by decide +kernel
set_option maxRecDepth 100000 in
theorem al_ck_X12_how : ev_ckMe al_more al_cl al_dfl al_tyf al_mk "TableTongue$Part" (ev_unM al_mX12_how, 0) = true := by decide +kernel
theorem al_kk_X12_how : ev_ckK al_mX12_how.2.2.2.2 = true := by decide +kernel
set_option maxRecDepth 100000 in
theorem al_ck_X12_forget : ev_ckMe al_more al_cl al_dfl al_tyf al_mk "TableTongue$Part" (ev_unM al_mX12_forget, 0) = true := by decide +kernel
theorem al_kk_X12_forget : ev_ckK al_mX12_forget.2.2.2.2 = true := by decide +kernel
set_option maxRecDepth 100000 in
theorem al_ck_X8_dropText : ev_ckMe al_more al_cl al_dfl al_tyf al_mk "TableTongue$Part" (ev_unM al_mX8_dropText, 0) = true := by decide +kernel
theorem al_kk_X8_dropText : ev_ckK al_mX8_dropText.2.2.2.2 = true := by decide +kernel
set_option maxRecDepth 100000 in
theorem al_ck_X6_clear : ev_ckMe al_more al_cl al_dfl al_tyf al_mk "TableTongue$Part" (ev_unM al_mX6_clear, 0) = true := by decide +kernel
theorem al_kk_X6_clear : ev_ckK al_mX6_clear.2.2.2.2 = true := by decide +kernel
set_option maxRecDepth 100000 in
theorem al_ck_X6_emit : ev_ckMe al_more al_cl al_dfl al_tyf al_mk "TableTongue$Part" (ev_unM al_mX6_emit, 0) = true := by decide +kernel
theorem al_kk_X6_emit : ev_ckK al_mX6_emit.2.2.2.2 = true := by decide +kernel
set_option maxRecDepth 100000 in
theorem al_ck_X9_put : ev_ckMe al_more al_cl al_dfl al_tyf al_mk "TableTongue$Part" (ev_unM al_mX9_put, 0) = true := by decide +kernel
theorem al_kk_X9_put : ev_ckK al_mX9_put.2.2.2.2 = true := by decide +kernel
set_option maxRecDepth 100000 in
theorem al_ck_X5_init : ev_ckMe al_more al_cl al_dfl al_tyf al_mk "TableTongue$Part" (ev_unM al_mX5_init, 2) = true := by decide +kernel
theorem al_kk_X5_init : ev_ckK al_mX5_init.2.2.2.2 = true := by decide +kernel
set_option maxRecDepth 100000 in
theorem al_ck_X10_open : ev_ckMe al_more al_cl al_dfl al_tyf al_mk "TableTongue$Part" (ev_unM al_mX10_open, 0) = true := by decide +kernel
theorem al_kk_X10_open : ev_ckK al_mX10_open.2.2.2.2 = true := by decide +kernel
set_option maxRecDepth 100000 in
theorem al_ck_X4_init : ev_ckMe al_more al_cl al_dfl al_tyf al_mk "TableTongue$Part" (ev_unM al_mX4_init, 2) = true := by decide +kernel
theorem al_kk_X4_init : ev_ckK al_mX4_init.2.2.2.2 = true := by decide +kernel
set_option maxRecDepth 100000 in
theorem al_ck_X4_emit : ev_ckMe al_more al_cl al_dfl al_tyf al_mk "TableTongue$Part" (ev_unM al_mX4_emit, 0) = true := by decide +kernel
theorem al_kk_X4_emit : ev_ckK al_mX4_emit.2.2.2.2 = true := by decide +kernel
set_option maxRecDepth 100000 in
theorem al_ck_X4_block : ev_ckMe al_more al_cl al_dfl al_tyf al_mk "TableTongue$Part" (ev_unM al_mX4_block, 0) = true := by decide +kernel
theorem al_kk_X4_block : ev_ckK al_mX4_block.2.2.2.2 = true := by decide +kernel
set_option maxRecDepth 100000 in
theorem al_ck_X7_height : ev_ckMe al_more al_cl al_dfl al_tyf al_mk "TableTongue$Part" (ev_unM al_mX7_height, 0) = true := by decide +kernel
theorem al_kk_X7_height : ev_ckK al_mX7_height.2.2.2.2 = true := by decide +kernel
set_option maxRecDepth 100000 in
theorem al_ck_X0_clear : ev_ckMe al_more al_cl al_dfl al_tyf al_mk "TableTongue$Part" (ev_unM al_mX0_clear, 0) = true := by decide +kernel
theorem al_kk_X0_clear : ev_ckK al_mX0_clear.2.2.2.2 = true := by decide +kernel
set_option maxRecDepth 100000 in
theorem al_ck_X1_init : ev_ckMe al_more al_cl al_dfl al_tyf al_mk "TableTongue$Part" (ev_unM al_mX1_init, 2) = true := by decide +kernel
theorem al_kk_X1_init : ev_ckK al_mX1_init.2.2.2.2 = true := by decide +kernel
set_option maxRecDepth 100000 in
theorem al_ck_J0_substring_b52d3 : ev_ckMe al_more al_cl al_dfl al_tyf al_mk "TableTongue$Part" (ev_unM al_mJ0_substring_b52d3, 0) = true := by decide +kernel
theorem al_kk_J0_substring_b52d3 : ev_ckK al_mJ0_substring_b52d3.2.2.2.2 = true := by decide +kernel
set_option maxRecDepth 100000 in
theorem al_ck_J1_canEncode_9a6ad : ev_ckMe al_more al_cl al_dfl al_tyf al_mk "TableTongue$Part" (ev_unM al_mJ1_canEncode_9a6ad, 1) = true := by decide +kernel
theorem al_kk_J1_canEncode_9a6ad : ev_ckK al_mJ1_canEncode_9a6ad.2.2.2.2 = true := by decide +kernel
set_option maxRecDepth 100000 in
theorem al_ck_J1_newString_b4f7a : ev_ckMe al_more al_cl al_dfl al_tyf al_mk "TableTongue$Part" (ev_unM al_mJ1_newString_b4f7a, 1) = true := by decide +kernel
theorem al_kk_J1_newString_b4f7a : ev_ckK al_mJ1_newString_b4f7a.2.2.2.2 = true := by decide +kernel
set_option maxRecDepth 100000 in
theorem al_ck_J7_fill_031fb : ev_ckMe al_more al_cl al_dfl al_tyf al_mk "TableTongue$Part" (ev_unM al_mJ7_fill_031fb, 1) = true := by decide +kernel
theorem al_kk_J7_fill_031fb : ev_ckK al_mJ7_fill_031fb.2.2.2.2 = true := by decide +kernel
set_option maxRecDepth 100000 in
theorem al_ck_X4_expect : ev_ckMe al_more al_cl al_dfl al_tyf al_mk "TableTongue$Part" (ev_unM al_mX4_expect, 0) = true := by decide +kernel
theorem al_kk_X4_expect : ev_ckK al_mX4_expect.2.2.2.2 = true := by decide +kernel
set_option maxRecDepth 100000 in
theorem al_ck_X4_push : ev_ckMe al_more al_cl al_dfl al_tyf al_mk "TableTongue$Part" (ev_unM al_mX4_push, 0) = true := by decide +kernel
theorem al_kk_X4_push : ev_ckK al_mX4_push.2.2.2.2 = true := by decide +kernel
set_option maxRecDepth 100000 in
theorem al_ck_X4_statement : ev_ckMe al_more al_cl al_dfl al_tyf al_mk "TableTongue$Part" (ev_unM al_mX4_statement, 0) = true := by decide +kernel
theorem al_kk_X4_statement : ev_ckK al_mX4_statement.2.2.2.2 = true := by decide +kernel
set_option maxRecDepth 100000 in
theorem al_ck_X4_condition : ev_ckMe al_more al_cl al_dfl al_tyf al_mk "TableTongue$Part" (ev_unM al_mX4_condition, 0) = true := by decide +kernel
theorem al_kk_X4_condition : ev_ckK al_mX4_condition.2.2.2.2 = true := by decide +kernel
set_option maxRecDepth 100000 in
theorem al_ck_X4_moreNames : ev_ckMe al_more al_cl al_dfl al_tyf al_mk "TableTongue$Part" (ev_unM al_mX4_moreNames, 0) = true := by decide +kernel
theorem al_kk_X4_moreNames : ev_ckK al_mX4_moreNames.2.2.2.2 = true := by decide +kernel
set_option maxRecDepth 100000 in
theorem al_ck_X4_rowFor : ev_ckMe al_more al_cl al_dfl al_tyf al_mk "TableTongue$Part" (ev_unM al_mX4_rowFor, 0) = true := by decide +kernel
theorem al_kk_X4_rowFor : ev_ckK al_mX4_rowFor.2.2.2.2 = true := by decide +kernel
set_option maxRecDepth 100000 in
theorem al_ck_X4_fieldName : ev_ckMe al_more al_cl al_dfl al_tyf al_mk "TableTongue$Part" (ev_unM al_mX4_fieldName, 0) = true := by decide +kernel
theorem al_kk_X4_fieldName : ev_ckK al_mX4_fieldName.2.2.2.2 = true := by decide +kernel
set_option maxRecDepth 100000 in
theorem al_ck_X4_link : ev_ckMe al_more al_cl al_dfl al_tyf al_mk "TableTongue$Part" (ev_unM al_mX4_link, 0) = true := by decide +kernel
theorem al_kk_X4_link : ev_ckK al_mX4_link.2.2.2.2 = true := by decide +kernel
set_option maxRecDepth 100000 in
theorem al_ck_X4_row : ev_ckMe al_more al_cl al_dfl al_tyf al_mk "TableTongue$Part" (ev_unM al_mX4_row, 0) = true := by decide +kernel
theorem al_kk_X4_row : ev_ckK al_mX4_row.2.2.2.2 = true := by decide +kernel
set_option maxRecDepth 100000 in
theorem al_ck_X4_expression : ev_ckMe al_more al_cl al_dfl al_tyf al_mk "TableTongue$Part" (ev_unM al_mX4_expression, 0) = true := by decide +kernel
theorem al_kk_X4_expression : ev_ckK al_mX4_expression.2.2.2.2 = true := by decide +kernel
set_option maxRecDepth 100000 in
theorem al_ck_X4_separator : ev_ckMe al_more al_cl al_dfl al_tyf al_mk "TableTongue$Part" (ev_unM al_mX4_separator, 0) = true := by decide +kernel
theorem al_kk_X4_separator : ev_ckK al_mX4_separator.2.2.2.2 = true := by decide +kernel
set_option maxRecDepth 100000 in
theorem al_ck_X4_itemField : ev_ckMe al_more al_cl al_dfl al_tyf al_mk "TableTongue$Part" (ev_unM al_mX4_itemField, 0) = true := by decide +kernel
theorem al_kk_X4_itemField : ev_ckK al_mX4_itemField.2.2.2.2 = true := by decide +kernel
set_option maxRecDepth 100000 in
theorem al_ck_X6_wantOfLast : ev_ckMe al_more al_cl al_dfl al_tyf al_mk "TableTongue$Part" (ev_unM al_mX6_wantOfLast, 0) = true := by decide +kernel
theorem al_kk_X6_wantOfLast : ev_ckK al_mX6_wantOfLast.2.2.2.2 = true := by decide +kernel
set_option maxRecDepth 100000 in
theorem al_ck_X7_leave : ev_ckMe al_more al_cl al_dfl al_tyf al_mk "TableTongue$Part" (ev_unM al_mX7_leave, 0) = true := by decide +kernel
theorem al_kk_X7_leave : ev_ckK al_mX7_leave.2.2.2.2 = true := by decide +kernel
set_option maxRecDepth 100000 in
theorem al_ck_X7_current : ev_ckMe al_more al_cl al_dfl al_tyf al_mk "TableTongue$Part" (ev_unM al_mX7_current, 0) = true := by decide +kernel
theorem al_kk_X7_current : ev_ckK al_mX7_current.2.2.2.2 = true := by decide +kernel
set_option maxRecDepth 100000 in
theorem al_ck_X7_setBreaks : ev_ckMe al_more al_cl al_dfl al_tyf al_mk "TableTongue$Part" (ev_unM al_mX7_setBreaks, 0) = true := by decide +kernel
theorem al_kk_X7_setBreaks : ev_ckK al_mX7_setBreaks.2.2.2.2 = true := by decide +kernel
set_option maxRecDepth 100000 in
theorem al_ck_X7_resolve : ev_ckMe al_more al_cl al_dfl al_tyf al_mk "TableTongue$Part" (ev_unM al_mX7_resolve, 0) = true := by decide +kernel
theorem al_kk_X7_resolve : ev_ckK al_mX7_resolve.2.2.2.2 = true := by decide +kernel
set_option maxRecDepth 100000 in
theorem al_ck_X8_putWhole : ev_ckMe al_more al_cl al_dfl al_tyf al_mk "TableTongue$Part" (ev_unM al_mX8_putWhole, 0) = true := by decide +kernel
theorem al_kk_X8_putWhole : ev_ckK al_mX8_putWhole.2.2.2.2 = true := by decide +kernel
set_option maxRecDepth 100000 in
theorem al_ck_X10_isDigit : ev_ckMe al_more al_cl al_dfl al_tyf al_mk "TableTongue$Part" (ev_unM al_mX10_isDigit, 1) = true := by decide +kernel
theorem al_kk_X10_isDigit : ev_ckK al_mX10_isDigit.2.2.2.2 = true := by decide +kernel
set_option maxRecDepth 100000 in
theorem al_ck_X10_scanNumber : ev_ckMe al_more al_cl al_dfl al_tyf al_mk "TableTongue$Part" (ev_unM al_mX10_scanNumber, 0) = true := by decide +kernel
theorem al_kk_X10_scanNumber : ev_ckK al_mX10_scanNumber.2.2.2.2 = true := by decide +kernel
set_option maxRecDepth 100000 in
theorem al_ck_X12_isLetter : ev_ckMe al_more al_cl al_dfl al_tyf al_mk "TableTongue$Part" (ev_unM al_mX12_isLetter, 1) = true := by decide +kernel
theorem al_kk_X12_isLetter : ev_ckK al_mX12_isLetter.2.2.2.2 = true := by decide +kernel
set_option maxRecDepth 100000 in
theorem al_ck_X12_wordBehind : ev_ckMe al_more al_cl al_dfl al_tyf al_mk "TableTongue$Part" (ev_unM al_mX12_wordBehind, 1) = true := by decide +kernel
theorem al_kk_X12_wordBehind : ev_ckK al_mX12_wordBehind.2.2.2.2 = true := by decide +kernel
set_option maxRecDepth 100000 in
theorem al_ck_X12_escape : ev_ckMe al_more al_cl al_dfl al_tyf al_mk "TableTongue$Part" (ev_unM al_mX12_escape, 0) = true := by decide +kernel
theorem al_kk_X12_escape : ev_ckK al_mX12_escape.2.2.2.2 = true := by decide +kernel
set_option maxRecDepth 100000 in
theorem al_ck_X12_readSign : ev_ckMe al_more al_cl al_dfl al_tyf al_mk "TableTongue$Part" (ev_unM al_mX12_readSign, 0) = true := by decide +kernel
theorem al_kk_X12_readSign : ev_ckK al_mX12_readSign.2.2.2.2 = true := by decide +kernel
set_option maxRecDepth 100000 in
theorem al_ck_X12_beginsE : ev_ckMe al_more al_cl al_dfl al_tyf al_mk "TableTongue$Part" (ev_unM al_mX12_beginsE, 0) = true := by decide +kernel
theorem al_kk_X12_beginsE : ev_ckK al_mX12_beginsE.2.2.2.2 = true := by decide +kernel
set_option maxRecDepth 100000 in
theorem al_ck_X12_block : ev_ckMe al_more al_cl al_dfl al_tyf al_mk "TableTongue$Part" (ev_unM al_mX12_block, 0) = true := by decide +kernel
theorem al_kk_X12_block : ev_ckK al_mX12_block.2.2.2.2 = true := by decide +kernel
set_option maxRecDepth 100000 in
theorem al_ck_X12_statement : ev_ckMe al_more al_cl al_dfl al_tyf al_mk "TableTongue$Part" (ev_unM al_mX12_statement, 0) = true := by decide +kernel
theorem al_kk_X12_statement : ev_ckK al_mX12_statement.2.2.2.2 = true := by decide +kernel
set_option maxRecDepth 100000 in
theorem al_ck_X12_leftOf : ev_ckMe al_more al_cl al_dfl al_tyf al_mk "TableTongue$Part" (ev_unM al_mX12_leftOf, 1) = true := by decide +kernel
theorem al_kk_X12_leftOf : ev_ckK al_mX12_leftOf.2.2.2.2 = true := by decide +kernel
set_option maxRecDepth 100000 in
theorem al_ck_X12_strength : ev_ckMe al_more al_cl al_dfl al_tyf al_mk "TableTongue$Part" (ev_unM al_mX12_strength, 0) = true := by decide +kernel
theorem al_kk_X12_strength : ev_ckK al_mX12_strength.2.2.2.2 = true := by decide +kernel
set_option maxRecDepth 100000 in
theorem al_ck_X12_operand : ev_ckMe al_more al_cl al_dfl al_tyf al_mk "TableTongue$Part" (ev_unM al_mX12_operand, 0) = true := by decide +kernel
theorem al_kk_X12_operand : ev_ckK al_mX12_operand.2.2.2.2 = true := by decide +kernel
set_option maxRecDepth 100000 in
theorem al_ck_X12_suffix : ev_ckMe al_more al_cl al_dfl al_tyf al_mk "TableTongue$Part" (ev_unM al_mX12_suffix, 0) = true := by decide +kernel
theorem al_kk_X12_suffix : ev_ckK al_mX12_suffix.2.2.2.2 = true := by decide +kernel
set_option maxRecDepth 100000 in
theorem al_ck_X12_parameters : ev_ckMe al_more al_cl al_dfl al_tyf al_mk "TableTongue$Part" (ev_unM al_mX12_parameters, 0) = true := by decide +kernel
theorem al_kk_X12_parameters : ev_ckK al_mX12_parameters.2.2.2.2 = true := by decide +kernel
set_option maxRecDepth 100000 in
theorem al_ck_X12_assign : ev_ckMe al_more al_cl al_dfl al_tyf al_mk "TableTongue$Part" (ev_unM al_mX12_assign, 0) = true := by decide +kernel
theorem al_kk_X12_assign : ev_ckK al_mX12_assign.2.2.2.2 = true := by decide +kernel
set_option maxRecDepth 100000 in
theorem al_ck_X12_until : ev_ckMe al_more al_cl al_dfl al_tyf al_mk "TableTongue$Part" (ev_unM al_mX12_until, 0) = true := by decide +kernel
theorem al_kk_X12_until : ev_ckK al_mX12_until.2.2.2.2 = true := by decide +kernel
set_option maxRecDepth 100000 in
theorem al_ck_X12_forEnd : ev_ckMe al_more al_cl al_dfl al_tyf al_mk "TableTongue$Part" (ev_unM al_mX12_forEnd, 0) = true := by decide +kernel
theorem al_kk_X12_forEnd : ev_ckK al_mX12_forEnd.2.2.2.2 = true := by decide +kernel
set_option maxRecDepth 100000 in
theorem al_ck_X12_returned : ev_ckMe al_more al_cl al_dfl al_tyf al_mk "TableTongue$Part" (ev_unM al_mX12_returned, 0) = true := by decide +kernel
theorem al_kk_X12_returned : ev_ckK al_mX12_returned.2.2.2.2 = true := by decide +kernel
set_option maxRecDepth 100000 in
theorem al_ck_X12_closeBracket : ev_ckMe al_more al_cl al_dfl al_tyf al_mk "TableTongue$Part" (ev_unM al_mX12_closeBracket, 0) = true := by decide +kernel
theorem al_kk_X12_closeBracket : ev_ckK al_mX12_closeBracket.2.2.2.2 = true := by decide +kernel
