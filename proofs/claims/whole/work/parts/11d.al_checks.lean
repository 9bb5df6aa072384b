/-! ===== 11d: the tables checked ===== -/
set_option maxRecDepth 100000 in
theorem al_ck_J1_charAt_3b067 : ev_ckMe al_more al_cl al_dfl al_tyf al_mk "TableTongue$Part" (ev_unM al_mJ1_charAt_3b067, 1) = true := by decide +kernel
theorem al_kk_J1_charAt_3b067 : ev_ckK al_mJ1_charAt_3b067.2.2.2.2 = true := by decide +kernel
set_option maxRecDepth 100000 in
theorem al_ck_J3_checkIndex_8e157 : ev_ckMe al_more al_cl al_dfl al_tyf al_mk "TableTongue$Part" (ev_unM al_mJ3_checkIndex_8e157, 1) = true := by decide +kernel
theorem al_kk_J3_checkIndex_8e157 : ev_ckK al_mJ3_checkIndex_8e157.2.2.2.2 = true := by decide +kernel
set_option maxRecDepth 100000 in
theorem al_ck_X8_begin : ev_ckMe al_more al_cl al_dfl al_tyf al_mk "TableTongue$Part" (ev_unM al_mX8_begin, 0) = true := by decide +kernel
theorem al_kk_X8_begin : ev_ckK al_mX8_begin.2.2.2.2 = true := by decide +kernel
set_option maxRecDepth 100000 in
theorem al_ck_X8_keepFixed : ev_ckMe al_more al_cl al_dfl al_tyf al_mk "TableTongue$Part" (ev_unM al_mX8_keepFixed, 0) = true := by decide +kernel
theorem al_kk_X8_keepFixed : ev_ckK al_mX8_keepFixed.2.2.2.2 = true := by decide +kernel
set_option maxRecDepth 100000 in
theorem al_ck_X1_latent : ev_ckMe al_more al_cl al_dfl al_tyf al_mk "TableTongue$Part" (ev_unM al_mX1_latent, 0) = true := by decide +kernel
theorem al_kk_X1_latent : ev_ckK al_mX1_latent.2.2.2.2 = true := by decide +kernel
set_option maxRecDepth 100000 in
theorem al_ck_X12_internTypes : ev_ckMe al_more al_cl al_dfl al_tyf al_mk "TableTongue$Part" (ev_unM al_mX12_internTypes, 0) = true := by decide +kernel
theorem al_kk_X12_internTypes : ev_ckK al_mX12_internTypes.2.2.2.2 = true := by decide +kernel
set_option maxRecDepth 100000 in
theorem al_ck_X12_hashOf : ev_ckMe al_more al_cl al_dfl al_tyf al_mk "TableTongue$Part" (ev_unM al_mX12_hashOf, 0) = true := by decide +kernel
theorem al_kk_X12_hashOf : ev_ckK al_mX12_hashOf.2.2.2.2 = true := by decide +kernel
set_option maxRecDepth 100000 in
theorem al_ck_X12_forgetFrom : ev_ckMe al_more al_cl al_dfl al_tyf al_mk "TableTongue$Part" (ev_unM al_mX12_forgetFrom, 0) = true := by decide +kernel
theorem al_kk_X12_forgetFrom : ev_ckK al_mX12_forgetFrom.2.2.2.2 = true := by decide +kernel
set_option maxRecDepth 100000 in
theorem al_ck_X12_readTokens : ev_ckMe al_more al_cl al_dfl al_tyf al_mk "TableTongue$Part" (ev_unM al_mX12_readTokens, 0) = true := by decide +kernel
theorem al_kk_X12_readTokens : ev_ckK al_mX12_readTokens.2.2.2.2 = true := by decide +kernel
set_option maxRecDepth 100000 in
theorem al_ck_X12_readBlock : ev_ckMe al_more al_cl al_dfl al_tyf al_mk "TableTongue$Part" (ev_unM al_mX12_readBlock, 0) = true := by decide +kernel
theorem al_kk_X12_readBlock : ev_ckK al_mX12_readBlock.2.2.2.2 = true := by decide +kernel
set_option maxRecDepth 100000 in
theorem al_ck_X12_goOnStatement : ev_ckMe al_more al_cl al_dfl al_tyf al_mk "TableTongue$Part" (ev_unM al_mX12_goOnStatement, 0) = true := by decide +kernel
theorem al_kk_X12_goOnStatement : ev_ckK al_mX12_goOnStatement.2.2.2.2 = true := by decide +kernel
set_option maxRecDepth 100000 in
theorem al_ck_X12_object : ev_ckMe al_more al_cl al_dfl al_tyf al_mk "TableTongue$Part" (ev_unM al_mX12_object, 0) = true := by decide +kernel
theorem al_kk_X12_object : ev_ckK al_mX12_object.2.2.2.2 = true := by decide +kernel
set_option maxRecDepth 100000 in
theorem al_ck_X11_init : ev_ckMe al_more al_cl al_dfl al_tyf al_mk "TableTongue$Part" (ev_unM al_mX11_init, 2) = true := by decide +kernel
theorem al_kk_X11_init : ev_ckK al_mX11_init.2.2.2.2 = true := by decide +kernel
set_option maxRecDepth 100000 in
theorem al_ck_X8_keepNames : ev_ckMe al_more al_cl al_dfl al_tyf al_mk "TableTongue$Part" (ev_unM al_mX8_keepNames, 0) = true := by decide +kernel
theorem al_kk_X8_keepNames : ev_ckK al_mX8_keepNames.2.2.2.2 = true := by decide +kernel
set_option maxRecDepth 100000 in
theorem al_ck_X8_dropMade : ev_ckMe al_more al_cl al_dfl al_tyf al_mk "TableTongue$Part" (ev_unM al_mX8_dropMade, 0) = true := by decide +kernel
theorem al_kk_X8_dropMade : ev_ckK al_mX8_dropMade.2.2.2.2 = true := by decide +kernel
set_option maxRecDepth 100000 in
theorem al_ck_X6_addFunction : ev_ckMe al_more al_cl al_dfl al_tyf al_mk "TableTongue$Part" (ev_unM al_mX6_addFunction, 0) = true := by decide +kernel
theorem al_kk_X6_addFunction : ev_ckK al_mX6_addFunction.2.2.2.2 = true := by decide +kernel
set_option maxRecDepth 100000 in
theorem al_ck_X9_open : ev_ckMe al_more al_cl al_dfl al_tyf al_mk "TableTongue$Part" (ev_unM al_mX9_open, 0) = true := by decide +kernel
theorem al_kk_X9_open : ev_ckK al_mX9_open.2.2.2.2 = true := by decide +kernel
set_option maxRecDepth 100000 in
theorem al_ck_X3_init : ev_ckMe al_more al_cl al_dfl al_tyf al_mk "TableTongue$Part" (ev_unM al_mX3_init, 2) = true := by decide +kernel
theorem al_kk_X3_init : ev_ckK al_mX3_init.2.2.2.2 = true := by decide +kernel
set_option maxRecDepth 100000 in
theorem al_ck_X3_make : ev_ckMe al_more al_cl al_dfl al_tyf al_mk "TableTongue$Part" (ev_unM al_mX3_make, 0) = true := by decide +kernel
theorem al_kk_X3_make : ev_ckK al_mX3_make.2.2.2.2 = true := by decide +kernel
set_option maxRecDepth 100000 in
theorem al_ck_X5_enter : ev_ckMe al_more al_cl al_dfl al_tyf al_mk "TableTongue$Part" (ev_unM al_mX5_enter, 0) = true := by decide +kernel
theorem al_kk_X5_enter : ev_ckK al_mX5_enter.2.2.2.2 = true := by decide +kernel
set_option maxRecDepth 100000 in
theorem al_ck_X4_judge : ev_ckMe al_more al_cl al_dfl al_tyf al_mk "TableTongue$Part" (ev_unM al_mX4_judge, 0) = true := by decide +kernel
theorem al_kk_X4_judge : ev_ckK al_mX4_judge.2.2.2.2 = true := by decide +kernel
set_option maxRecDepth 100000 in
theorem al_ck_X7_clear : ev_ckMe al_more al_cl al_dfl al_tyf al_mk "TableTongue$Part" (ev_unM al_mX7_clear, 0) = true := by decide +kernel
theorem al_kk_X7_clear : ev_ckK al_mX7_clear.2.2.2.2 = true := by decide +kernel
set_option maxRecDepth 100000 in
theorem al_ck_X0_init : ev_ckMe al_more al_cl al_dfl al_tyf al_mk "TableTongue$Part" (ev_unM al_mX0_init, 2) = true := by decide +kernel
theorem al_kk_X0_init : ev_ckK al_mX0_init.2.2.2.2 = true := by decide +kernel
set_option maxRecDepth 100000 in
theorem al_ck_X1_keepNames : ev_ckMe al_more al_cl al_dfl al_tyf al_mk "TableTongue$Part" (ev_unM al_mX1_keepNames, 0) = true := by decide +kernel
theorem al_kk_X1_keepNames : ev_ckK al_mX1_keepNames.2.2.2.2 = true := by decide +kernel
set_option maxRecDepth 100000 in
theorem al_ck_J0_indexOf_7cf53 : ev_ckMe al_more al_cl al_dfl al_tyf al_mk "TableTongue$Part" (ev_unM al_mJ0_indexOf_7cf53, 0) = true := by decide +kernel
theorem al_kk_J0_indexOf_7cf53 : ev_ckK al_mJ0_indexOf_7cf53.2.2.2.2 = true := by decide +kernel
set_option maxRecDepth 100000 in
theorem al_ck_J0_checkBoundsBeginEnd_23922 : ev_ckMe al_more al_cl al_dfl al_tyf al_mk "TableTongue$Part" (ev_unM al_mJ0_checkBoundsBeginEnd_23922, 1) = true := by decide +kernel
theorem al_kk_J0_checkBoundsBeginEnd_23922 : ev_ckK al_mJ0_checkBoundsBeginEnd_23922.2.2.2.2 = true := by decide +kernel
set_option maxRecDepth 100000 in
theorem al_ck_J1_indexOfChar_4cfef : ev_ckMe al_more al_cl al_dfl al_tyf al_mk "TableTongue$Part" (ev_unM al_mJ1_indexOfChar_4cfef, 1) = true := by decide +kernel
theorem al_kk_J1_indexOfChar_4cfef : ev_ckK al_mJ1_indexOfChar_4cfef.2.2.2.2 = true := by decide +kernel
set_option maxRecDepth 100000 in
theorem al_ck_J7_fill_53178 : ev_ckMe al_more al_cl al_dfl al_tyf al_mk "TableTongue$Part" (ev_unM al_mJ7_fill_53178, 1) = true := by decide +kernel
theorem al_kk_J7_fill_53178 : ev_ckK al_mJ7_fill_53178.2.2.2.2 = true := by decide +kernel
set_option maxRecDepth 100000 in
theorem al_ck_X4_refuse : ev_ckMe al_more al_cl al_dfl al_tyf al_mk "TableTongue$Part" (ev_unM al_mX4_refuse, 0) = true := by decide +kernel
theorem al_kk_X4_refuse : ev_ckK al_mX4_refuse.2.2.2.2 = true := by decide +kernel
set_option maxRecDepth 100000 in
theorem al_ck_X4_closedBlock : ev_ckMe al_more al_cl al_dfl al_tyf al_mk "TableTongue$Part" (ev_unM al_mX4_closedBlock, 0) = true := by decide +kernel
theorem al_kk_X4_closedBlock : ev_ckK al_mX4_closedBlock.2.2.2.2 = true := by decide +kernel
set_option maxRecDepth 100000 in
theorem al_ck_X4_whileStatement : ev_ckMe al_more al_cl al_dfl al_tyf al_mk "TableTongue$Part" (ev_unM al_mX4_whileStatement, 0) = true := by decide +kernel
theorem al_kk_X4_whileStatement : ev_ckK al_mX4_whileStatement.2.2.2.2 = true := by decide +kernel
set_option maxRecDepth 100000 in
theorem al_ck_X4_newName : ev_ckMe al_more al_cl al_dfl al_tyf al_mk "TableTongue$Part" (ev_unM al_mX4_newName, 0) = true := by decide +kernel
theorem al_kk_X4_newName : ev_ckK al_mX4_newName.2.2.2.2 = true := by decide +kernel
set_option maxRecDepth 100000 in
theorem al_ck_X4_forStatement : ev_ckMe al_more al_cl al_dfl al_tyf al_mk "TableTongue$Part" (ev_unM al_mX4_forStatement, 0) = true := by decide +kernel
theorem al_kk_X4_forStatement : ev_ckK al_mX4_forStatement.2.2.2.2 = true := by decide +kernel
set_option maxRecDepth 100000 in
theorem al_ck_X4_localStatement : ev_ckMe al_more al_cl al_dfl al_tyf al_mk "TableTongue$Part" (ev_unM al_mX4_localStatement, 0) = true := by decide +kernel
theorem al_kk_X4_localStatement : ev_ckK al_mX4_localStatement.2.2.2.2 = true := by decide +kernel
set_option maxRecDepth 100000 in
theorem al_ck_X4_keyName : ev_ckMe al_more al_cl al_dfl al_tyf al_mk "TableTongue$Part" (ev_unM al_mX4_keyName, 0) = true := by decide +kernel
theorem al_kk_X4_keyName : ev_ckK al_mX4_keyName.2.2.2.2 = true := by decide +kernel
set_option maxRecDepth 100000 in
theorem al_ck_X4_given : ev_ckMe al_more al_cl al_dfl al_tyf al_mk "TableTongue$Part" (ev_unM al_mX4_given, 0) = true := by decide +kernel
theorem al_kk_X4_given : ev_ckK al_mX4_given.2.2.2.2 = true := by decide +kernel
set_option maxRecDepth 100000 in
theorem al_ck_X4_assign : ev_ckMe al_more al_cl al_dfl al_tyf al_mk "TableTongue$Part" (ev_unM al_mX4_assign, 0) = true := by decide +kernel
theorem al_kk_X4_assign : ev_ckK al_mX4_assign.2.2.2.2 = true := by decide +kernel
set_option maxRecDepth 100000 in
theorem al_ck_X4_strength : ev_ckMe al_more al_cl al_dfl al_tyf al_mk "TableTongue$Part" (ev_unM al_mX4_strength, 0) = true := by decide +kernel
theorem al_kk_X4_strength : ev_ckK al_mX4_strength.2.2.2.2 = true := by decide +kernel
set_option maxRecDepth 100000 in
theorem al_ck_X4_binary : ev_ckMe al_more al_cl al_dfl al_tyf al_mk "TableTongue$Part" (ev_unM al_mX4_binary, 1) = true := by decide +kernel
theorem al_kk_X4_binary : ev_ckK al_mX4_binary.2.2.2.2 = true := by decide +kernel
set_option maxRecDepth 100000 in
theorem al_ck_X4_table : ev_ckMe al_more al_cl al_dfl al_tyf al_mk "TableTongue$Part" (ev_unM al_mX4_table, 0) = true := by decide +kernel
theorem al_kk_X4_table : ev_ckK al_mX4_table.2.2.2.2 = true := by decide +kernel
set_option maxRecDepth 100000 in
theorem al_ck_X4_parameters : ev_ckMe al_more al_cl al_dfl al_tyf al_mk "TableTongue$Part" (ev_unM al_mX4_parameters, 0) = true := by decide +kernel
theorem al_kk_X4_parameters : ev_ckK al_mX4_parameters.2.2.2.2 = true := by decide +kernel
set_option maxRecDepth 100000 in
theorem al_ck_X7_setHeight : ev_ckMe al_more al_cl al_dfl al_tyf al_mk "TableTongue$Part" (ev_unM al_mX7_setHeight, 0) = true := by decide +kernel
theorem al_kk_X7_setHeight : ev_ckK al_mX7_setHeight.2.2.2.2 = true := by decide +kernel
set_option maxRecDepth 100000 in
theorem al_ck_X7_hide : ev_ckMe al_more al_cl al_dfl al_tyf al_mk "TableTongue$Part" (ev_unM al_mX7_hide, 0) = true := by decide +kernel
theorem al_kk_X7_hide : ev_ckK al_mX7_hide.2.2.2.2 = true := by decide +kernel
set_option maxRecDepth 100000 in
theorem al_ck_X8_lengthOf : ev_ckMe al_more al_cl al_dfl al_tyf al_mk "TableTongue$Part" (ev_unM al_mX8_lengthOf, 0) = true := by decide +kernel
theorem al_kk_X8_lengthOf : ev_ckK al_mX8_lengthOf.2.2.2.2 = true := by decide +kernel
set_option maxRecDepth 100000 in
theorem al_ck_X8_has : ev_ckMe al_more al_cl al_dfl al_tyf al_mk "TableTongue$Part" (ev_unM al_mX8_has, 0) = true := by decide +kernel
theorem al_kk_X8_has : ev_ckK al_mX8_has.2.2.2.2 = true := by decide +kernel
set_option maxRecDepth 100000 in
theorem al_ck_X8_rowByte : ev_ckMe al_more al_cl al_dfl al_tyf al_mk "TableTongue$Part" (ev_unM al_mX8_rowByte, 0) = true := by decide +kernel
theorem al_kk_X8_rowByte : ev_ckK al_mX8_rowByte.2.2.2.2 = true := by decide +kernel
set_option maxRecDepth 100000 in
theorem al_ck_X8_putString : ev_ckMe al_more al_cl al_dfl al_tyf al_mk "TableTongue$Part" (ev_unM al_mX8_putString, 0) = true := by decide +kernel
theorem al_kk_X8_putString : ev_ckK al_mX8_putString.2.2.2.2 = true := by decide +kernel
set_option maxRecDepth 100000 in
theorem al_ck_X8_wordOfRow : ev_ckMe al_more al_cl al_dfl al_tyf al_mk "TableTongue$Part" (ev_unM al_mX8_wordOfRow, 0) = true := by decide +kernel
theorem al_kk_X8_wordOfRow : ev_ckK al_mX8_wordOfRow.2.2.2.2 = true := by decide +kernel
set_option maxRecDepth 100000 in
theorem al_ck_X10_stop : ev_ckMe al_more al_cl al_dfl al_tyf al_mk "TableTongue$Part" (ev_unM al_mX10_stop, 0) = true := by decide +kernel
theorem al_kk_X10_stop : ev_ckK al_mX10_stop.2.2.2.2 = true := by decide +kernel
set_option maxRecDepth 100000 in
theorem al_ck_X10_byteAt : ev_ckMe al_more al_cl al_dfl al_tyf al_mk "TableTongue$Part" (ev_unM al_mX10_byteAt, 0) = true := by decide +kernel
theorem al_kk_X10_byteAt : ev_ckK al_mX10_byteAt.2.2.2.2 = true := by decide +kernel
set_option maxRecDepth 100000 in
theorem al_ck_X10_scanName : ev_ckMe al_more al_cl al_dfl al_tyf al_mk "TableTongue$Part" (ev_unM al_mX10_scanName, 0) = true := by decide +kernel
theorem al_kk_X10_scanName : ev_ckK al_mX10_scanName.2.2.2.2 = true := by decide +kernel
set_option maxRecDepth 100000 in
theorem al_ck_X10_scanSign : ev_ckMe al_more al_cl al_dfl al_tyf al_mk "TableTongue$Part" (ev_unM al_mX10_scanSign, 0) = true := by decide +kernel
theorem al_kk_X10_scanSign : ev_ckK al_mX10_scanSign.2.2.2.2 = true := by decide +kernel
set_option maxRecDepth 100000 in
theorem al_ck_X12_isDigit : ev_ckMe al_more al_cl al_dfl al_tyf al_mk "TableTongue$Part" (ev_unM al_mX12_isDigit, 1) = true := by decide +kernel
theorem al_kk_X12_isDigit : ev_ckK al_mX12_isDigit.2.2.2.2 = true := by decide +kernel
set_option maxRecDepth 100000 in
theorem al_ck_X12_readName : ev_ckMe al_more al_cl al_dfl al_tyf al_mk "TableTongue$Part" (ev_unM al_mX12_readName, 0) = true := by decide +kernel
theorem al_kk_X12_readName : ev_ckK al_mX12_readName.2.2.2.2 = true := by decide +kernel
set_option maxRecDepth 100000 in
theorem al_ck_X12_pair : ev_ckMe al_more al_cl al_dfl al_tyf al_mk "TableTongue$Part" (ev_unM al_mX12_pair, 1) = true := by decide +kernel
theorem al_kk_X12_pair : ev_ckK al_mX12_pair.2.2.2.2 = true := by decide +kernel
set_option maxRecDepth 100000 in
theorem al_ck_X12_fail : ev_ckMe al_more al_cl al_dfl al_tyf al_mk "TableTongue$Part" (ev_unM al_mX12_fail, 0) = true := by decide +kernel
theorem al_kk_X12_fail : ev_ckK al_mX12_fail.2.2.2.2 = true := by decide +kernel
set_option maxRecDepth 100000 in
theorem al_ck_X12_take : ev_ckMe al_more al_cl al_dfl al_tyf al_mk "TableTongue$Part" (ev_unM al_mX12_take, 0) = true := by decide +kernel
theorem al_kk_X12_take : ev_ckK al_mX12_take.2.2.2.2 = true := by decide +kernel
set_option maxRecDepth 100000 in
theorem al_ck_X12_proto : ev_ckMe al_more al_cl al_dfl al_tyf al_mk "TableTongue$Part" (ev_unM al_mX12_proto, 0) = true := by decide +kernel
theorem al_kk_X12_proto : ev_ckK al_mX12_proto.2.2.2.2 = true := by decide +kernel
set_option maxRecDepth 100000 in
theorem al_ck_X12_know : ev_ckMe al_more al_cl al_dfl al_tyf al_mk "TableTongue$Part" (ev_unM al_mX12_know, 0) = true := by decide +kernel
theorem al_kk_X12_know : ev_ckK al_mX12_know.2.2.2.2 = true := by decide +kernel
set_option maxRecDepth 100000 in
theorem al_ck_X12_discharge : ev_ckMe al_more al_cl al_dfl al_tyf al_mk "TableTongue$Part" (ev_unM al_mX12_discharge, 0) = true := by decide +kernel
theorem al_kk_X12_discharge : ev_ckK al_mX12_discharge.2.2.2.2 = true := by decide +kernel
set_option maxRecDepth 100000 in
theorem al_ck_X12_endScope : ev_ckMe al_more al_cl al_dfl al_tyf al_mk "TableTongue$Part" (ev_unM al_mX12_endScope, 0) = true := by decide +kernel
theorem al_kk_X12_endScope : ev_ckK al_mX12_endScope.2.2.2.2 = true := by decide +kernel
set_option maxRecDepth 100000 in
theorem al_ck_X12_closeLoop : ev_ckMe al_more al_cl al_dfl al_tyf al_mk "TableTongue$Part" (ev_unM al_mX12_closeLoop, 0) = true := by decide +kernel
theorem al_kk_X12_closeLoop : ev_ckK al_mX12_closeLoop.2.2.2.2 = true := by decide +kernel
set_option maxRecDepth 100000 in
theorem al_ck_X12_localRow : ev_ckMe al_more al_cl al_dfl al_tyf al_mk "TableTongue$Part" (ev_unM al_mX12_localRow, 0) = true := by decide +kernel
theorem al_kk_X12_localRow : ev_ckK al_mX12_localRow.2.2.2.2 = true := by decide +kernel
set_option maxRecDepth 100000 in
theorem al_ck_X12_readFor : ev_ckMe al_more al_cl al_dfl al_tyf al_mk "TableTongue$Part" (ev_unM al_mX12_readFor, 0) = true := by decide +kernel
theorem al_kk_X12_readFor : ev_ckK al_mX12_readFor.2.2.2.2 = true := by decide +kernel
set_option maxRecDepth 100000 in
theorem al_ck_X12_eventOf : ev_ckMe al_more al_cl al_dfl al_tyf al_mk "TableTongue$Part" (ev_unM al_mX12_eventOf, 1) = true := by decide +kernel
theorem al_kk_X12_eventOf : ev_ckK al_mX12_eventOf.2.2.2.2 = true := by decide +kernel
set_option maxRecDepth 100000 in
theorem al_ck_X12_unary : ev_ckMe al_more al_cl al_dfl al_tyf al_mk "TableTongue$Part" (ev_unM al_mX12_unary, 0) = true := by decide +kernel
theorem al_kk_X12_unary : ev_ckK al_mX12_unary.2.2.2.2 = true := by decide +kernel
set_option maxRecDepth 100000 in
theorem al_ck_X12_beginsGiven : ev_ckMe al_more al_cl al_dfl al_tyf al_mk "TableTongue$Part" (ev_unM al_mX12_beginsGiven, 0) = true := by decide +kernel
theorem al_kk_X12_beginsGiven : ev_ckK al_mX12_beginsGiven.2.2.2.2 = true := by decide +kernel
set_option maxRecDepth 100000 in
theorem al_ck_X12_table : ev_ckMe al_more al_cl al_dfl al_tyf al_mk "TableTongue$Part" (ev_unM al_mX12_table, 0) = true := by decide +kernel
theorem al_kk_X12_table : ev_ckK al_mX12_table.2.2.2.2 = true := by decide +kernel
set_option maxRecDepth 100000 in
theorem al_ck_X12_fields : ev_ckMe al_more al_cl al_dfl al_tyf al_mk "TableTongue$Part" (ev_unM al_mX12_fields, 0) = true := by decide +kernel
theorem al_kk_X12_fields : ev_ckK al_mX12_fields.2.2.2.2 = true := by decide +kernel
set_option maxRecDepth 100000 in
theorem al_ck_X12_afterChain : ev_ckMe al_more al_cl al_dfl al_tyf al_mk "TableTongue$Part" (ev_unM al_mX12_afterChain, 0) = true := by decide +kernel
theorem al_kk_X12_afterChain : ev_ckK al_mX12_afterChain.2.2.2.2 = true := by decide +kernel
set_option maxRecDepth 100000 in
theorem al_ck_X12_untilEnd : ev_ckMe al_more al_cl al_dfl al_tyf al_mk "TableTongue$Part" (ev_unM al_mX12_untilEnd, 0) = true := by decide +kernel
theorem al_kk_X12_untilEnd : ev_ckK al_mX12_untilEnd.2.2.2.2 = true := by decide +kernel
set_option maxRecDepth 100000 in
theorem al_ck_X12_forDo : ev_ckMe al_more al_cl al_dfl al_tyf al_mk "TableTongue$Part" (ev_unM al_mX12_forDo, 0) = true := by decide +kernel
theorem al_kk_X12_forDo : ev_ckK al_mX12_forDo.2.2.2.2 = true := by decide +kernel
set_option maxRecDepth 100000 in
theorem al_ck_X12_functionDone : ev_ckMe al_more al_cl al_dfl al_tyf al_mk "TableTongue$Part" (ev_unM al_mX12_functionDone, 0) = true := by decide +kernel
theorem al_kk_X12_functionDone : ev_ckK al_mX12_functionDone.2.2.2.2 = true := by decide +kernel
set_option maxRecDepth 100000 in
theorem al_ck_X12_chainValue : ev_ckMe al_more al_cl al_dfl al_tyf al_mk "TableTongue$Part" (ev_unM al_mX12_chainValue, 0) = true := by decide +kernel
theorem al_kk_X12_chainValue : ev_ckK al_mX12_chainValue.2.2.2.2 = true := by decide +kernel
