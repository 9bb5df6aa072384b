/-! ===== 11b: the tables checked ===== -/
set_option maxRecDepth 100000 in
theorem al_ck_J0_charAt_5068e : ev_ckMe al_more al_cl al_dfl al_tyf al_mk "TableTongue$Part" (ev_unM al_mJ0_charAt_5068e, 0) = true := by decide +kernel
theorem al_kk_J0_charAt_5068e : ev_ckK al_mJ0_charAt_5068e.2.2.2.2 = true := by decide +kernel
set_option maxRecDepth 100000 in
theorem al_ck_J0_length_8abf5 : ev_ckMe al_more al_cl al_dfl al_tyf al_mk "TableTongue$Part" (ev_unM al_mJ0_length_8abf5, 0) = true := by decide +kernel
theorem al_kk_J0_length_8abf5 : ev_ckK al_mJ0_length_8abf5.2.2.2.2 = true := by decide +kernel
set_option maxRecDepth 100000 in
theorem al_ck_X8_add : ev_ckMe al_more al_cl al_dfl al_tyf al_mk "TableTongue$Part" (ev_unM al_mX8_add, 0) = true := by decide +kernel
theorem al_kk_X8_add : ev_ckK al_mX8_add.2.2.2.2 = true := by decide +kernel
set_option maxRecDepth 100000 in
theorem al_ck_X12_internBuilt : ev_ckMe al_more al_cl al_dfl al_tyf al_mk "TableTongue$Part" (ev_unM al_mX12_internBuilt, 0) = true := by decide +kernel
theorem al_kk_X12_internBuilt : ev_ckK al_mX12_internBuilt.2.2.2.2 = true := by decide +kernel
set_option maxRecDepth 100000 in
theorem al_ck_X12_compile : ev_ckMe al_more al_cl al_dfl al_tyf al_mk "TableTongue$Part" (ev_unM al_mX12_compile, 0) = true := by decide +kernel
theorem al_kk_X12_compile : ev_ckK al_mX12_compile.2.2.2.2 = true := by decide +kernel
set_option maxRecDepth 100000 in
theorem al_ck_X12_at : ev_ckMe al_more al_cl al_dfl al_tyf al_mk "TableTongue$Part" (ev_unM al_mX12_at, 0) = true := by decide +kernel
theorem al_kk_X12_at : ev_ckK al_mX12_at.2.2.2.2 = true := by decide +kernel
set_option maxRecDepth 100000 in
theorem al_ck_X12_emit : ev_ckMe al_more al_cl al_dfl al_tyf al_mk "TableTongue$Part" (ev_unM al_mX12_emit, 0) = true := by decide +kernel
theorem al_kk_X12_emit : ev_ckK al_mX12_emit.2.2.2.2 = true := by decide +kernel
set_option maxRecDepth 100000 in
theorem al_ck_X12_goOn : ev_ckMe al_more al_cl al_dfl al_tyf al_mk "TableTongue$Part" (ev_unM al_mX12_goOn, 0) = true := by decide +kernel
theorem al_kk_X12_goOn : ev_ckK al_mX12_goOn.2.2.2.2 = true := by decide +kernel
set_option maxRecDepth 100000 in
theorem al_ck_X12_set : ev_ckMe al_more al_cl al_dfl al_tyf al_mk "TableTongue$Part" (ev_unM al_mX12_set, 0) = true := by decide +kernel
theorem al_kk_X12_set : ev_ckK al_mX12_set.2.2.2.2 = true := by decide +kernel
set_option maxRecDepth 100000 in
theorem al_ck_X12_openFrame : ev_ckMe al_more al_cl al_dfl al_tyf al_mk "TableTongue$Part" (ev_unM al_mX12_openFrame, 0) = true := by decide +kernel
theorem al_kk_X12_openFrame : ev_ckK al_mX12_openFrame.2.2.2.2 = true := by decide +kernel
set_option maxRecDepth 100000 in
theorem al_ck_X8_cutTo : ev_ckMe al_more al_cl al_dfl al_tyf al_mk "TableTongue$Part" (ev_unM al_mX8_cutTo, 0) = true := by decide +kernel
theorem al_kk_X8_cutTo : ev_ckK al_mX8_cutTo.2.2.2.2 = true := by decide +kernel
set_option maxRecDepth 100000 in
theorem al_ck_X9_init : ev_ckMe al_more al_cl al_dfl al_tyf al_mk "TableTongue$Part" (ev_unM al_mX9_init, 2) = true := by decide +kernel
theorem al_kk_X9_init : ev_ckK al_mX9_init.2.2.2.2 = true := by decide +kernel
set_option maxRecDepth 100000 in
theorem al_ck_X9_add : ev_ckMe al_more al_cl al_dfl al_tyf al_mk "TableTongue$Part" (ev_unM al_mX9_add, 0) = true := by decide +kernel
theorem al_kk_X9_add : ev_ckK al_mX9_add.2.2.2.2 = true := by decide +kernel
set_option maxRecDepth 100000 in
theorem al_ck_X10_init : ev_ckMe al_more al_cl al_dfl al_tyf al_mk "TableTongue$Part" (ev_unM al_mX10_init, 2) = true := by decide +kernel
theorem al_kk_X10_init : ev_ckK al_mX10_init.2.2.2.2 = true := by decide +kernel
set_option maxRecDepth 100000 in
theorem al_ck_X10_behindBlanks : ev_ckMe al_more al_cl al_dfl al_tyf al_mk "TableTongue$Part" (ev_unM al_mX10_behindBlanks, 0) = true := by decide +kernel
theorem al_kk_X10_behindBlanks : ev_ckK al_mX10_behindBlanks.2.2.2.2 = true := by decide +kernel
set_option maxRecDepth 100000 in
theorem al_ck_X4_next : ev_ckMe al_more al_cl al_dfl al_tyf al_mk "TableTongue$Part" (ev_unM al_mX4_next, 0) = true := by decide +kernel
theorem al_kk_X4_next : ev_ckK al_mX4_next.2.2.2.2 = true := by decide +kernel
set_option maxRecDepth 100000 in
theorem al_ck_X7_enter : ev_ckMe al_more al_cl al_dfl al_tyf al_mk "TableTongue$Part" (ev_unM al_mX7_enter, 0) = true := by decide +kernel
theorem al_kk_X7_enter : ev_ckK al_mX7_enter.2.2.2.2 = true := by decide +kernel
set_option maxRecDepth 100000 in
theorem al_ck_X2_reset : ev_ckMe al_more al_cl al_dfl al_tyf al_mk "TableTongue$Part" (ev_unM al_mX2_reset, 0) = true := by decide +kernel
theorem al_kk_X2_reset : ev_ckK al_mX2_reset.2.2.2.2 = true := by decide +kernel
set_option maxRecDepth 100000 in
theorem al_ck_X1_newTable : ev_ckMe al_more al_cl al_dfl al_tyf al_mk "TableTongue$Part" (ev_unM al_mX1_newTable, 0) = true := by decide +kernel
theorem al_kk_X1_newTable : ev_ckK al_mX1_newTable.2.2.2.2 = true := by decide +kernel
set_option maxRecDepth 100000 in
theorem al_ck_J0_indexOf_0f7a4 : ev_ckMe al_more al_cl al_dfl al_tyf al_mk "TableTongue$Part" (ev_unM al_mJ0_indexOf_0f7a4, 0) = true := by decide +kernel
theorem al_kk_J0_indexOf_0f7a4 : ev_ckK al_mJ0_indexOf_0f7a4.2.2.2.2 = true := by decide +kernel
set_option maxRecDepth 100000 in
theorem al_ck_J0_substring_37a41 : ev_ckMe al_more al_cl al_dfl al_tyf al_mk "TableTongue$Part" (ev_unM al_mJ0_substring_37a41, 0) = true := by decide +kernel
theorem al_kk_J0_substring_37a41 : ev_ckK al_mJ0_substring_37a41.2.2.2.2 = true := by decide +kernel
set_option maxRecDepth 100000 in
theorem al_ck_J3_checkFromToIndex_8c36e : ev_ckMe al_more al_cl al_dfl al_tyf al_mk "TableTongue$Part" (ev_unM al_mJ3_checkFromToIndex_8c36e, 1) = true := by decide +kernel
theorem al_kk_J3_checkFromToIndex_8c36e : ev_ckK al_mJ3_checkFromToIndex_8c36e.2.2.2.2 = true := by decide +kernel
set_option maxRecDepth 100000 in
theorem al_ck_J7_checkLength_df160 : ev_ckMe al_more al_cl al_dfl al_tyf al_mk "TableTongue$Part" (ev_unM al_mJ7_checkLength_df160, 1) = true := by decide +kernel
theorem al_kk_J7_checkLength_df160 : ev_ckK al_mJ7_checkLength_df160.2.2.2.2 = true := by decide +kernel
set_option maxRecDepth 100000 in
theorem al_ck_J7_copyOfRangeByte_39247 : ev_ckMe al_more al_cl al_dfl al_tyf al_mk "TableTongue$Part" (ev_unM al_mJ7_copyOfRangeByte_39247, 1) = true := by decide +kernel
theorem al_kk_J7_copyOfRangeByte_39247 : ev_ckK al_mJ7_copyOfRangeByte_39247.2.2.2.2 = true := by decide +kernel
set_option maxRecDepth 100000 in
theorem al_ck_X4_startsExpression : ev_ckMe al_more al_cl al_dfl al_tyf al_mk "TableTongue$Part" (ev_unM al_mX4_startsExpression, 0) = true := by decide +kernel
theorem al_kk_X4_startsExpression : ev_ckK al_mX4_startsExpression.2.2.2.2 = true := by decide +kernel
set_option maxRecDepth 100000 in
theorem al_ck_X4_breakStatement : ev_ckMe al_more al_cl al_dfl al_tyf al_mk "TableTongue$Part" (ev_unM al_mX4_breakStatement, 0) = true := by decide +kernel
theorem al_kk_X4_breakStatement : ev_ckK al_mX4_breakStatement.2.2.2.2 = true := by decide +kernel
set_option maxRecDepth 100000 in
theorem al_ck_X4_endLoop : ev_ckMe al_more al_cl al_dfl al_tyf al_mk "TableTongue$Part" (ev_unM al_mX4_endLoop, 0) = true := by decide +kernel
theorem al_kk_X4_endLoop : ev_ckK al_mX4_endLoop.2.2.2.2 = true := by decide +kernel
set_option maxRecDepth 100000 in
theorem al_ck_X4_ifStatement : ev_ckMe al_more al_cl al_dfl al_tyf al_mk "TableTongue$Part" (ev_unM al_mX4_ifStatement, 0) = true := by decide +kernel
theorem al_kk_X4_ifStatement : ev_ckK al_mX4_ifStatement.2.2.2.2 = true := by decide +kernel
set_option maxRecDepth 100000 in
theorem al_ck_X4_adjust : ev_ckMe al_more al_cl al_dfl al_tyf al_mk "TableTongue$Part" (ev_unM al_mX4_adjust, 0) = true := by decide +kernel
theorem al_kk_X4_adjust : ev_ckK al_mX4_adjust.2.2.2.2 = true := by decide +kernel
set_option maxRecDepth 100000 in
theorem al_ck_X4_functionStatement : ev_ckMe al_more al_cl al_dfl al_tyf al_mk "TableTongue$Part" (ev_unM al_mX4_functionStatement, 0) = true := by decide +kernel
theorem al_kk_X4_functionStatement : ev_ckK al_mX4_functionStatement.2.2.2.2 = true := by decide +kernel
set_option maxRecDepth 100000 in
theorem al_ck_X4_startName : ev_ckMe al_more al_cl al_dfl al_tyf al_mk "TableTongue$Part" (ev_unM al_mX4_startName, 0) = true := by decide +kernel
theorem al_kk_X4_startName : ev_ckK al_mX4_startName.2.2.2.2 = true := by decide +kernel
set_option maxRecDepth 100000 in
theorem al_ck_X4_chain : ev_ckMe al_more al_cl al_dfl al_tyf al_mk "TableTongue$Part" (ev_unM al_mX4_chain, 0) = true := by decide +kernel
theorem al_kk_X4_chain : ev_ckK al_mX4_chain.2.2.2.2 = true := by decide +kernel
set_option maxRecDepth 100000 in
theorem al_ck_X4_assignment : ev_ckMe al_more al_cl al_dfl al_tyf al_mk "TableTongue$Part" (ev_unM al_mX4_assignment, 0) = true := by decide +kernel
theorem al_kk_X4_assignment : ev_ckK al_mX4_assignment.2.2.2.2 = true := by decide +kernel
set_option maxRecDepth 100000 in
theorem al_ck_X4_operation : ev_ckMe al_more al_cl al_dfl al_tyf al_mk "TableTongue$Part" (ev_unM al_mX4_operation, 0) = true := by decide +kernel
theorem al_kk_X4_operation : ev_ckK al_mX4_operation.2.2.2.2 = true := by decide +kernel
set_option maxRecDepth 100000 in
theorem al_ck_X4_keyedField : ev_ckMe al_more al_cl al_dfl al_tyf al_mk "TableTongue$Part" (ev_unM al_mX4_keyedField, 0) = true := by decide +kernel
theorem al_kk_X4_keyedField : ev_ckK al_mX4_keyedField.2.2.2.2 = true := by decide +kernel
set_option maxRecDepth 100000 in
theorem al_ck_X6_addWhole : ev_ckMe al_more al_cl al_dfl al_tyf al_mk "TableTongue$Part" (ev_unM al_mX6_addWhole, 0) = true := by decide +kernel
theorem al_kk_X6_addWhole : ev_ckK al_mX6_addWhole.2.2.2.2 = true := by decide +kernel
set_option maxRecDepth 100000 in
theorem al_ck_X6_land : ev_ckMe al_more al_cl al_dfl al_tyf al_mk "TableTongue$Part" (ev_unM al_mX6_land, 0) = true := by decide +kernel
theorem al_kk_X6_land : ev_ckK al_mX6_land.2.2.2.2 = true := by decide +kernel
set_option maxRecDepth 100000 in
theorem al_ck_X7_rise : ev_ckMe al_more al_cl al_dfl al_tyf al_mk "TableTongue$Part" (ev_unM al_mX7_rise, 0) = true := by decide +kernel
theorem al_kk_X7_rise : ev_ckK al_mX7_rise.2.2.2.2 = true := by decide +kernel
set_option maxRecDepth 100000 in
theorem al_ck_X7_reveal : ev_ckMe al_more al_cl al_dfl al_tyf al_mk "TableTongue$Part" (ev_unM al_mX7_reveal, 0) = true := by decide +kernel
theorem al_kk_X7_reveal : ev_ckK al_mX7_reveal.2.2.2.2 = true := by decide +kernel
set_option maxRecDepth 100000 in
theorem al_ck_X7_slotOf : ev_ckMe al_more al_cl al_dfl al_tyf al_mk "TableTongue$Part" (ev_unM al_mX7_slotOf, 0) = true := by decide +kernel
theorem al_kk_X7_slotOf : ev_ckK al_mX7_slotOf.2.2.2.2 = true := by decide +kernel
set_option maxRecDepth 100000 in
theorem al_ck_X8_compare : ev_ckMe al_more al_cl al_dfl al_tyf al_mk "TableTongue$Part" (ev_unM al_mX8_compare, 0) = true := by decide +kernel
theorem al_kk_X8_compare : ev_ckK al_mX8_compare.2.2.2.2 = true := by decide +kernel
set_option maxRecDepth 100000 in
theorem al_ck_X8_keepTextual : ev_ckMe al_more al_cl al_dfl al_tyf al_mk "TableTongue$Part" (ev_unM al_mX8_keepTextual, 0) = true := by decide +kernel
theorem al_kk_X8_keepTextual : ev_ckK al_mX8_keepTextual.2.2.2.2 = true := by decide +kernel
set_option maxRecDepth 100000 in
theorem al_ck_X10_assignFollows : ev_ckMe al_more al_cl al_dfl al_tyf al_mk "TableTongue$Part" (ev_unM al_mX10_assignFollows, 0) = true := by decide +kernel
theorem al_kk_X10_assignFollows : ev_ckK al_mX10_assignFollows.2.2.2.2 = true := by decide +kernel
set_option maxRecDepth 100000 in
theorem al_ck_X10_isLetter : ev_ckMe al_more al_cl al_dfl al_tyf al_mk "TableTongue$Part" (ev_unM al_mX10_isLetter, 1) = true := by decide +kernel
theorem al_kk_X10_isLetter : ev_ckK al_mX10_isLetter.2.2.2.2 = true := by decide +kernel
set_option maxRecDepth 100000 in
theorem al_ck_X10_scanQuoted : ev_ckMe al_more al_cl al_dfl al_tyf al_mk "TableTongue$Part" (ev_unM al_mX10_scanQuoted, 0) = true := by decide +kernel
theorem al_kk_X10_scanQuoted : ev_ckK al_mX10_scanQuoted.2.2.2.2 = true := by decide +kernel
set_option maxRecDepth 100000 in
theorem al_ck_X10_pairOf : ev_ckMe al_more al_cl al_dfl al_tyf al_mk "TableTongue$Part" (ev_unM al_mX10_pairOf, 1) = true := by decide +kernel
theorem al_kk_X10_pairOf : ev_ckK al_mX10_pairOf.2.2.2.2 = true := by decide +kernel
set_option maxRecDepth 100000 in
theorem al_ck_X12_hex : ev_ckMe al_more al_cl al_dfl al_tyf al_mk "TableTongue$Part" (ev_unM al_mX12_hex, 1) = true := by decide +kernel
theorem al_kk_X12_hex : ev_ckK al_mX12_hex.2.2.2.2 = true := by decide +kernel
set_option maxRecDepth 100000 in
theorem al_ck_X12_readWhole : ev_ckMe al_more al_cl al_dfl al_tyf al_mk "TableTongue$Part" (ev_unM al_mX12_readWhole, 0) = true := by decide +kernel
theorem al_kk_X12_readWhole : ev_ckK al_mX12_readWhole.2.2.2.2 = true := by decide +kernel
set_option maxRecDepth 100000 in
theorem al_ck_X12_isAlone : ev_ckMe al_more al_cl al_dfl al_tyf al_mk "TableTongue$Part" (ev_unM al_mX12_isAlone, 1) = true := by decide +kernel
theorem al_kk_X12_isAlone : ev_ckK al_mX12_isAlone.2.2.2.2 = true := by decide +kernel
set_option maxRecDepth 100000 in
theorem al_ck_X12_here : ev_ckMe al_more al_cl al_dfl al_tyf al_mk "TableTongue$Part" (ev_unM al_mX12_here, 0) = true := by decide +kernel
theorem al_kk_X12_here : ev_ckK al_mX12_here.2.2.2.2 = true := by decide +kernel
set_option maxRecDepth 100000 in
theorem al_ck_X12_needSign : ev_ckMe al_more al_cl al_dfl al_tyf al_mk "TableTongue$Part" (ev_unM al_mX12_needSign, 0) = true := by decide +kernel
theorem al_kk_X12_needSign : ev_ckK al_mX12_needSign.2.2.2.2 = true := by decide +kernel
set_option maxRecDepth 100000 in
theorem al_ck_X12_lineHere : ev_ckMe al_more al_cl al_dfl al_tyf al_mk "TableTongue$Part" (ev_unM al_mX12_lineHere, 0) = true := by decide +kernel
theorem al_kk_X12_lineHere : ev_ckK al_mX12_lineHere.2.2.2.2 = true := by decide +kernel
set_option maxRecDepth 100000 in
theorem al_ck_X12_countLocal : ev_ckMe al_more al_cl al_dfl al_tyf al_mk "TableTongue$Part" (ev_unM al_mX12_countLocal, 0) = true := by decide +kernel
theorem al_kk_X12_countLocal : ev_ckK al_mX12_countLocal.2.2.2.2 = true := by decide +kernel
set_option maxRecDepth 100000 in
theorem al_ck_X12_resolve : ev_ckMe al_more al_cl al_dfl al_tyf al_mk "TableTongue$Part" (ev_unM al_mX12_resolve, 0) = true := by decide +kernel
theorem al_kk_X12_resolve : ev_ckK al_mX12_resolve.2.2.2.2 = true := by decide +kernel
set_option maxRecDepth 100000 in
theorem al_ck_X12_readBreak : ev_ckMe al_more al_cl al_dfl al_tyf al_mk "TableTongue$Part" (ev_unM al_mX12_readBreak, 0) = true := by decide +kernel
theorem al_kk_X12_readBreak : ev_ckK al_mX12_readBreak.2.2.2.2 = true := by decide +kernel
set_option maxRecDepth 100000 in
theorem al_ck_X12_readFunction : ev_ckMe al_more al_cl al_dfl al_tyf al_mk "TableTongue$Part" (ev_unM al_mX12_readFunction, 0) = true := by decide +kernel
theorem al_kk_X12_readFunction : ev_ckK al_mX12_readFunction.2.2.2.2 = true := by decide +kernel
set_option maxRecDepth 100000 in
theorem al_ck_X12_readE : ev_ckMe al_more al_cl al_dfl al_tyf al_mk "TableTongue$Part" (ev_unM al_mX12_readE, 0) = true := by decide +kernel
theorem al_kk_X12_readE : ev_ckK al_mX12_readE.2.2.2.2 = true := by decide +kernel
set_option maxRecDepth 100000 in
theorem al_ck_X12_binary : ev_ckMe al_more al_cl al_dfl al_tyf al_mk "TableTongue$Part" (ev_unM al_mX12_binary, 0) = true := by decide +kernel
theorem al_kk_X12_binary : ev_ckK al_mX12_binary.2.2.2.2 = true := by decide +kernel
set_option maxRecDepth 100000 in
theorem al_ck_X12_given : ev_ckMe al_more al_cl al_dfl al_tyf al_mk "TableTongue$Part" (ev_unM al_mX12_given, 0) = true := by decide +kernel
theorem al_kk_X12_given : ev_ckK al_mX12_given.2.2.2.2 = true := by decide +kernel
set_option maxRecDepth 100000 in
theorem al_ck_X12_keyed : ev_ckMe al_more al_cl al_dfl al_tyf al_mk "TableTongue$Part" (ev_unM al_mX12_keyed, 0) = true := by decide +kernel
theorem al_kk_X12_keyed : ev_ckK al_mX12_keyed.2.2.2.2 = true := by decide +kernel
set_option maxRecDepth 100000 in
theorem al_ck_X12_body : ev_ckMe al_more al_cl al_dfl al_tyf al_mk "TableTongue$Part" (ev_unM al_mX12_body, 0) = true := by decide +kernel
theorem al_kk_X12_body : ev_ckK al_mX12_body.2.2.2.2 = true := by decide +kernel
set_option maxRecDepth 100000 in
theorem al_ck_X12_afterIf : ev_ckMe al_more al_cl al_dfl al_tyf al_mk "TableTongue$Part" (ev_unM al_mX12_afterIf, 0) = true := by decide +kernel
theorem al_kk_X12_afterIf : ev_ckK al_mX12_afterIf.2.2.2.2 = true := by decide +kernel
set_option maxRecDepth 100000 in
theorem al_ck_X12_whileEnd : ev_ckMe al_more al_cl al_dfl al_tyf al_mk "TableTongue$Part" (ev_unM al_mX12_whileEnd, 0) = true := by decide +kernel
theorem al_kk_X12_whileEnd : ev_ckK al_mX12_whileEnd.2.2.2.2 = true := by decide +kernel
set_option maxRecDepth 100000 in
theorem al_ck_X12_forThree : ev_ckMe al_more al_cl al_dfl al_tyf al_mk "TableTongue$Part" (ev_unM al_mX12_forThree, 0) = true := by decide +kernel
theorem al_kk_X12_forThree : ev_ckK al_mX12_forThree.2.2.2.2 = true := by decide +kernel
set_option maxRecDepth 100000 in
theorem al_ck_X12_inEnd : ev_ckMe al_more al_cl al_dfl al_tyf al_mk "TableTongue$Part" (ev_unM al_mX12_inEnd, 0) = true := by decide +kernel
theorem al_kk_X12_inEnd : ev_ckK al_mX12_inEnd.2.2.2.2 = true := by decide +kernel
set_option maxRecDepth 100000 in
theorem al_ck_X12_closeParen : ev_ckMe al_more al_cl al_dfl al_tyf al_mk "TableTongue$Part" (ev_unM al_mX12_closeParen, 0) = true := by decide +kernel
theorem al_kk_X12_closeParen : ev_ckK al_mX12_closeParen.2.2.2.2 = true := by decide +kernel
