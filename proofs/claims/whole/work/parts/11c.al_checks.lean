/-! ===== 11c: the tables checked ===== -/
set_option maxRecDepth 100000 in
theorem al_ck_J0_isLatin1_aae02 : ev_ckMe al_more al_cl al_dfl al_tyf al_mk "TableTongue$Part" (ev_unM al_mJ0_isLatin1_aae02, 0) = true := by decide +kernel
theorem al_kk_J0_isLatin1_aae02 : ev_ckK al_mJ0_isLatin1_aae02.2.2.2.2 = true := by decide +kernel
set_option maxRecDepth 100000 in
theorem al_ck_J0_checkIndex_df160 : ev_ckMe al_more al_cl al_dfl al_tyf al_mk "TableTongue$Part" (ev_unM al_mJ0_checkIndex_df160, 1) = true := by decide +kernel
theorem al_kk_J0_checkIndex_df160 : ev_ckK al_mJ0_checkIndex_df160.2.2.2.2 = true := by decide +kernel
set_option maxRecDepth 100000 in
theorem al_ck_X8_find : ev_ckMe al_more al_cl al_dfl al_tyf al_mk "TableTongue$Part" (ev_unM al_mX8_find, 0) = true := by decide +kernel
theorem al_kk_X8_find : ev_ckK al_mX8_find.2.2.2.2 = true := by decide +kernel
set_option maxRecDepth 100000 in
theorem al_ck_X12_internNames : ev_ckMe al_more al_cl al_dfl al_tyf al_mk "TableTongue$Part" (ev_unM al_mX12_internNames, 0) = true := by decide +kernel
theorem al_kk_X12_internNames : ev_ckK al_mX12_internNames.2.2.2.2 = true := by decide +kernel
set_option maxRecDepth 100000 in
theorem al_ck_X12_skip : ev_ckMe al_more al_cl al_dfl al_tyf al_mk "TableTongue$Part" (ev_unM al_mX12_skip, 0) = true := by decide +kernel
theorem al_kk_X12_skip : ev_ckK al_mX12_skip.2.2.2.2 = true := by decide +kernel
set_option maxRecDepth 100000 in
theorem al_ck_X12_later : ev_ckMe al_more al_cl al_dfl al_tyf al_mk "TableTongue$Part" (ev_unM al_mX12_later, 0) = true := by decide +kernel
theorem al_kk_X12_later : ev_ckK al_mX12_later.2.2.2.2 = true := by decide +kernel
set_option maxRecDepth 100000 in
theorem al_ck_X12_isWord : ev_ckMe al_more al_cl al_dfl al_tyf al_mk "TableTongue$Part" (ev_unM al_mX12_isWord, 0) = true := by decide +kernel
theorem al_kk_X12_isWord : ev_ckK al_mX12_isWord.2.2.2.2 = true := by decide +kernel
set_option maxRecDepth 100000 in
theorem al_ck_X12_beginsStatement : ev_ckMe al_more al_cl al_dfl al_tyf al_mk "TableTongue$Part" (ev_unM al_mX12_beginsStatement, 0) = true := by decide +kernel
theorem al_kk_X12_beginsStatement : ev_ckK al_mX12_beginsStatement.2.2.2.2 = true := by decide +kernel
set_option maxRecDepth 100000 in
theorem al_ck_X12_set : ev_ckMe al_more al_cl al_dfl al_tyf al_mk "TableTongue$Part" (ev_unM al_mX12_set, 0) = true := by decide +kernel
theorem al_kk_X12_set : ev_ckK al_mX12_set.2.2.2.2 = true := by decide +kernel
set_option maxRecDepth 100000 in
theorem al_ck_X12_openFrame : ev_ckMe al_more al_cl al_dfl al_tyf al_mk "TableTongue$Part" (ev_unM al_mX12_openFrame, 0) = true := by decide +kernel
theorem al_kk_X12_openFrame : ev_ckK al_mX12_openFrame.2.2.2.2 = true := by decide +kernel
set_option maxRecDepth 100000 in
theorem al_ck_X6_init : ev_ckMe al_more al_cl al_dfl al_tyf al_mk "TableTongue$Part" (ev_unM al_mX6_init, 2) = true := by decide +kernel
theorem al_kk_X6_init : ev_ckK al_mX6_init.2.2.2.2 = true := by decide +kernel
set_option maxRecDepth 100000 in
theorem al_ck_X9_clear : ev_ckMe al_more al_cl al_dfl al_tyf al_mk "TableTongue$Part" (ev_unM al_mX9_clear, 0) = true := by decide +kernel
theorem al_kk_X9_clear : ev_ckK al_mX9_clear.2.2.2.2 = true := by decide +kernel
set_option maxRecDepth 100000 in
theorem al_ck_X9_find : ev_ckMe al_more al_cl al_dfl al_tyf al_mk "TableTongue$Part" (ev_unM al_mX9_find, 0) = true := by decide +kernel
theorem al_kk_X9_find : ev_ckK al_mX9_find.2.2.2.2 = true := by decide +kernel
set_option maxRecDepth 100000 in
theorem al_ck_X3_make : ev_ckMe al_more al_cl al_dfl al_tyf al_mk "TableTongue$Part" (ev_unM al_mX3_make, 0) = true := by decide +kernel
theorem al_kk_X3_make : ev_ckK al_mX3_make.2.2.2.2 = true := by decide +kernel
set_option maxRecDepth 100000 in
theorem al_ck_X5_enter : ev_ckMe al_more al_cl al_dfl al_tyf al_mk "TableTongue$Part" (ev_unM al_mX5_enter, 0) = true := by decide +kernel
theorem al_kk_X5_enter : ev_ckK al_mX5_enter.2.2.2.2 = true := by decide +kernel
set_option maxRecDepth 100000 in
theorem al_ck_X4_judge : ev_ckMe al_more al_cl al_dfl al_tyf al_mk "TableTongue$Part" (ev_unM al_mX4_judge, 0) = true := by decide +kernel
theorem al_kk_X4_judge : ev_ckK al_mX4_judge.2.2.2.2 = true := by decide +kernel
set_option maxRecDepth 100000 in
theorem al_ck_X7_enter : ev_ckMe al_more al_cl al_dfl al_tyf al_mk "TableTongue$Part" (ev_unM al_mX7_enter, 0) = true := by decide +kernel
theorem al_kk_X7_enter : ev_ckK al_mX7_enter.2.2.2.2 = true := by decide +kernel
set_option maxRecDepth 100000 in
theorem al_ck_X2_reset : ev_ckMe al_more al_cl al_dfl al_tyf al_mk "TableTongue$Part" (ev_unM al_mX2_reset, 0) = true := by decide +kernel
theorem al_kk_X2_reset : ev_ckK al_mX2_reset.2.2.2.2 = true := by decide +kernel
set_option maxRecDepth 100000 in
theorem al_ck_X1_newTable : ev_ckMe al_more al_cl al_dfl al_tyf al_mk "TableTongue$Part" (ev_unM al_mX1_newTable, 0) = true := by decide +kernel
theorem al_kk_X1_newTable : ev_ckK al_mX1_newTable.2.2.2.2 = true := by decide +kernel
set_option maxRecDepth 100000 in
theorem al_ck_J0_indexOf_7cf53 : ev_ckMe al_more al_cl al_dfl al_tyf al_mk "TableTongue$Part" (ev_unM al_mJ0_indexOf_7cf53, 0) = true := by decide +kernel
theorem al_kk_J0_indexOf_7cf53 : ev_ckK al_mJ0_indexOf_7cf53.2.2.2.2 = true := by decide +kernel
set_option maxRecDepth 100000 in
theorem al_ck_J0_checkBoundsBeginEnd_23922 : ev_ckMe al_more al_cl al_dfl al_tyf al_mk "TableTongue$Part" (ev_unM al_mJ0_checkBoundsBeginEnd_23922, 1) = true := by decide +kernel
theorem al_kk_J0_checkBoundsBeginEnd_23922 : ev_ckK al_mJ0_checkBoundsBeginEnd_23922.2.2.2.2 = true := by decide +kernel
set_option maxRecDepth 100000 in
theorem al_ck_J1_indexOfChar_4cfef : ev_ckMe al_more al_cl al_dfl al_tyf al_mk "TableTongue$Part" (ev_unM al_mJ1_indexOfChar_4cfef, 1) = true := by decide +kernel
theorem al_kk_J1_indexOfChar_4cfef : ev_ckK al_mJ1_indexOfChar_4cfef.2.2.2.2 = true := by decide +kernel
set_option maxRecDepth 100000 in
theorem al_ck_J7_fill_53178 : ev_ckMe al_more al_cl al_dfl al_tyf al_mk "TableTongue$Part" (ev_unM al_mJ7_fill_53178, 1) = true := by decide +kernel
theorem al_kk_J7_fill_53178 : ev_ckK al_mJ7_fill_53178.2.2.2.2 = true := by decide +kernel
