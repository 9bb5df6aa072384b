/-! ===== 11d: the tables checked ===== -/
set_option maxRecDepth 100000 in
theorem al_ck_J1_charAt_3b067 : ev_ckMe al_more al_cl al_dfl al_tyf al_mk "TableTongue$Part" (ev_unM al_mJ1_charAt_3b067, 1) = true := by decide +kernel
theorem al_kk_J1_charAt_3b067 : ev_ckK al_mJ1_charAt_3b067.2.2.2.2 = true := by decide +kernel
set_option maxRecDepth 100000 in
theorem al_ck_J3_checkIndex_8e157 : ev_ckMe al_more al_cl al_dfl al_tyf al_mk "TableTongue$Part" (ev_unM al_mJ3_checkIndex_8e157, 1) = true := by decide +kernel
theorem al_kk_J3_checkIndex_8e157 : ev_ckK al_mJ3_checkIndex_8e157.2.2.2.2 = true := by decide +kernel
set_option maxRecDepth 100000 in
theorem al_ck_X8_begin : ev_ckMe al_more al_cl al_dfl al_tyf al_mk "TableTongue$Part" (ev_unM al_mX8_begin, 0) = true := by decide +kernel
theorem al_kk_X8_begin : ev_ckK al_mX8_begin.2.2.2.2 = true := by decide +kernel
set_option maxRecDepth 100000 in
theorem al_ck_X8_keepFixed : ev_ckMe al_more al_cl al_dfl al_tyf al_mk "TableTongue$Part" (ev_unM al_mX8_keepFixed, 0) = true := by decide +kernel
theorem al_kk_X8_keepFixed : ev_ckK al_mX8_keepFixed.2.2.2.2 = true := by decide +kernel
set_option maxRecDepth 100000 in
theorem al_ck_X1_latent : ev_ckMe al_more al_cl al_dfl al_tyf al_mk "TableTongue$Part" (ev_unM al_mX1_latent, 0) = true := by decide +kernel
theorem al_kk_X1_latent : ev_ckK al_mX1_latent.2.2.2.2 = true := by decide +kernel
set_option maxRecDepth 100000 in
theorem al_ck_X12_internTypes : ev_ckMe al_more al_cl al_dfl al_tyf al_mk "TableTongue$Part" (ev_unM al_mX12_internTypes, 0) = true := by decide +kernel
theorem al_kk_X12_internTypes : ev_ckK al_mX12_internTypes.2.2.2.2 = true := by decide +kernel
set_option maxRecDepth 100000 in
theorem al_ck_X12_hashOf : ev_ckMe al_more al_cl al_dfl al_tyf al_mk "TableTongue$Part" (ev_unM al_mX12_hashOf, 0) = true := by decide +kernel
theorem al_kk_X12_hashOf : ev_ckK al_mX12_hashOf.2.2.2.2 = true := by decide +kernel
set_option maxRecDepth 100000 in
theorem al_ck_X12_forgetFrom : ev_ckMe al_more al_cl al_dfl al_tyf al_mk "TableTongue$Part" (ev_unM al_mX12_forgetFrom, 0) = true := by decide +kernel
theorem al_kk_X12_forgetFrom : ev_ckK al_mX12_forgetFrom.2.2.2.2 = true := by decide +kernel
set_option maxRecDepth 100000 in
theorem al_ck_X12_readTokens : ev_ckMe al_more al_cl al_dfl al_tyf al_mk "TableTongue$Part" (ev_unM al_mX12_readTokens, 0) = true := by decide +kernel
theorem al_kk_X12_readTokens : ev_ckK al_mX12_readTokens.2.2.2.2 = true := by decide +kernel
set_option maxRecDepth 100000 in
theorem al_ck_X12_readBlock : ev_ckMe al_more al_cl al_dfl al_tyf al_mk "TableTongue$Part" (ev_unM al_mX12_readBlock, 0) = true := by decide +kernel
theorem al_kk_X12_readBlock : ev_ckK al_mX12_readBlock.2.2.2.2 = true := by decide +kernel
set_option maxRecDepth 100000 in
theorem al_ck_X12_isSign : ev_ckMe al_more al_cl al_dfl al_tyf al_mk "TableTongue$Part" (ev_unM al_mX12_isSign, 0) = true := by decide +kernel
theorem al_kk_X12_isSign : ev_ckK al_mX12_isSign.2.2.2.2 = true := by decide +kernel
set_option maxRecDepth 100000 in
theorem al_ck_X12_fill : ev_ckMe al_more al_cl al_dfl al_tyf al_mk "TableTongue$Part" (ev_unM al_mX12_fill, 0) = true := by decide +kernel
theorem al_kk_X12_fill : ev_ckK al_mX12_fill.2.2.2.2 = true := by decide +kernel
set_option maxRecDepth 100000 in
theorem al_ck_X12_placeOf : ev_ckMe al_more al_cl al_dfl al_tyf al_mk "TableTongue$Part" (ev_unM al_mX12_placeOf, 0) = true := by decide +kernel
theorem al_kk_X12_placeOf : ev_ckK al_mX12_placeOf.2.2.2.2 = true := by decide +kernel
set_option maxRecDepth 100000 in
theorem al_ck_X12_keyHash : ev_ckMe al_more al_cl al_dfl al_tyf al_mk "TableTongue$Part" (ev_unM al_mX12_keyHash, 1) = true := by decide +kernel
theorem al_kk_X12_keyHash : ev_ckK al_mX12_keyHash.2.2.2.2 = true := by decide +kernel
set_option maxRecDepth 100000 in
theorem al_ck_X12_how : ev_ckMe al_more al_cl al_dfl al_tyf al_mk "TableTongue$Part" (ev_unM al_mX12_how, 0) = true := by decide +kernel
theorem al_kk_X12_how : ev_ckK al_mX12_how.2.2.2.2 = true := by decide +kernel
set_option maxRecDepth 100000 in
theorem al_ck_X11_init : ev_ckMe al_more al_cl al_dfl al_tyf al_mk "TableTongue$Part" (ev_unM al_mX11_init, 2) = true := by decide +kernel
theorem al_kk_X11_init : ev_ckK al_mX11_init.2.2.2.2 = true := by decide +kernel
set_option maxRecDepth 100000 in
theorem al_ck_X8_keepNames : ev_ckMe al_more al_cl al_dfl al_tyf al_mk "TableTongue$Part" (ev_unM al_mX8_keepNames, 0) = true := by decide +kernel
theorem al_kk_X8_keepNames : ev_ckK al_mX8_keepNames.2.2.2.2 = true := by decide +kernel
set_option maxRecDepth 100000 in
theorem al_ck_X8_dropMade : ev_ckMe al_more al_cl al_dfl al_tyf al_mk "TableTongue$Part" (ev_unM al_mX8_dropMade, 0) = true := by decide +kernel
theorem al_kk_X8_dropMade : ev_ckK al_mX8_dropMade.2.2.2.2 = true := by decide +kernel
set_option maxRecDepth 100000 in
theorem al_ck_X6_addFunction : ev_ckMe al_more al_cl al_dfl al_tyf al_mk "TableTongue$Part" (ev_unM al_mX6_addFunction, 0) = true := by decide +kernel
theorem al_kk_X6_addFunction : ev_ckK al_mX6_addFunction.2.2.2.2 = true := by decide +kernel
set_option maxRecDepth 100000 in
theorem al_ck_X9_open : ev_ckMe al_more al_cl al_dfl al_tyf al_mk "TableTongue$Part" (ev_unM al_mX9_open, 0) = true := by decide +kernel
theorem al_kk_X9_open : ev_ckK al_mX9_open.2.2.2.2 = true := by decide +kernel
set_option maxRecDepth 100000 in
theorem al_ck_X9_add : ev_ckMe al_more al_cl al_dfl al_tyf al_mk "TableTongue$Part" (ev_unM al_mX9_add, 0) = true := by decide +kernel
theorem al_kk_X9_add : ev_ckK al_mX9_add.2.2.2.2 = true := by decide +kernel
set_option maxRecDepth 100000 in
theorem al_ck_X10_init : ev_ckMe al_more al_cl al_dfl al_tyf al_mk "TableTongue$Part" (ev_unM al_mX10_init, 2) = true := by decide +kernel
theorem al_kk_X10_init : ev_ckK al_mX10_init.2.2.2.2 = true := by decide +kernel
set_option maxRecDepth 100000 in
theorem al_ck_X10_behindBlanks : ev_ckMe al_more al_cl al_dfl al_tyf al_mk "TableTongue$Part" (ev_unM al_mX10_behindBlanks, 0) = true := by decide +kernel
theorem al_kk_X10_behindBlanks : ev_ckK al_mX10_behindBlanks.2.2.2.2 = true := by decide +kernel
set_option maxRecDepth 100000 in
theorem al_ck_X4_next : ev_ckMe al_more al_cl al_dfl al_tyf al_mk "TableTongue$Part" (ev_unM al_mX4_next, 0) = true := by decide +kernel
theorem al_kk_X4_next : ev_ckK al_mX4_next.2.2.2.2 = true := by decide +kernel
set_option maxRecDepth 100000 in
theorem al_ck_X7_clear : ev_ckMe al_more al_cl al_dfl al_tyf al_mk "TableTongue$Part" (ev_unM al_mX7_clear, 0) = true := by decide +kernel
theorem al_kk_X7_clear : ev_ckK al_mX7_clear.2.2.2.2 = true := by decide +kernel
set_option maxRecDepth 100000 in
theorem al_ck_X0_init : ev_ckMe al_more al_cl al_dfl al_tyf al_mk "TableTongue$Part" (ev_unM al_mX0_init, 2) = true := by decide +kernel
theorem al_kk_X0_init : ev_ckK al_mX0_init.2.2.2.2 = true := by decide +kernel
set_option maxRecDepth 100000 in
theorem al_ck_X1_keepNames : ev_ckMe al_more al_cl al_dfl al_tyf al_mk "TableTongue$Part" (ev_unM al_mX1_keepNames, 0) = true := by decide +kernel
theorem al_kk_X1_keepNames : ev_ckK al_mX1_keepNames.2.2.2.2 = true := by decide +kernel
set_option maxRecDepth 100000 in
theorem al_ck_J0_indexOf_0f7a4 : ev_ckMe al_more al_cl al_dfl al_tyf al_mk "TableTongue$Part" (ev_unM al_mJ0_indexOf_0f7a4, 0) = true := by decide +kernel
theorem al_kk_J0_indexOf_0f7a4 : ev_ckK al_mJ0_indexOf_0f7a4.2.2.2.2 = true := by decide +kernel
set_option maxRecDepth 100000 in
theorem al_ck_J0_substring_37a41 : ev_ckMe al_more al_cl al_dfl al_tyf al_mk "TableTongue$Part" (ev_unM al_mJ0_substring_37a41, 0) = true := by decide +kernel
theorem al_kk_J0_substring_37a41 : ev_ckK al_mJ0_substring_37a41.2.2.2.2 = true := by decide +kernel
set_option maxRecDepth 100000 in
theorem al_ck_J1_newString_b4f7a : ev_ckMe al_more al_cl al_dfl al_tyf al_mk "TableTongue$Part" (ev_unM al_mJ1_newString_b4f7a, 1) = true := by decide +kernel
theorem al_kk_J1_newString_b4f7a : ev_ckK al_mJ1_newString_b4f7a.2.2.2.2 = true := by decide +kernel
set_option maxRecDepth 100000 in
theorem al_ck_J7_checkLength_df160 : ev_ckMe al_more al_cl al_dfl al_tyf al_mk "TableTongue$Part" (ev_unM al_mJ7_checkLength_df160, 1) = true := by decide +kernel
theorem al_kk_J7_checkLength_df160 : ev_ckK al_mJ7_checkLength_df160.2.2.2.2 = true := by decide +kernel
set_option maxRecDepth 100000 in
theorem al_ck_J7_copyOfRangeByte_39247 : ev_ckMe al_more al_cl al_dfl al_tyf al_mk "TableTongue$Part" (ev_unM al_mJ7_copyOfRangeByte_39247, 1) = true := by decide +kernel
theorem al_kk_J7_copyOfRangeByte_39247 : ev_ckK al_mJ7_copyOfRangeByte_39247.2.2.2.2 = true := by decide +kernel
