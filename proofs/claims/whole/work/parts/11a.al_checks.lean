/-! ===== 11a: the tables checked ===== -/
set_option maxRecDepth 100000 in
theorem al_ck_X8_put : ev_ckMe al_more al_cl al_dfl al_tyf al_mk "TableTongue$Part" (ev_unM al_mX8_put, 0) = true := by decide +kernel
theorem al_kk_X8_put : ev_ckK al_mX8_put.2.2.2.2 = true := by decide +kernel
set_option maxRecDepth 100000 in
theorem al_ck_J0_coder_7d493 : ev_ckMe al_more al_cl al_dfl al_tyf al_mk "TableTongue$Part" (ev_unM al_mJ0_coder_7d493, 0) = true := by decide +kernel
theorem al_kk_J0_coder_7d493 : ev_ckK al_mJ0_coder_7d493.2.2.2.2 = true := by decide +kernel
set_option maxRecDepth 100000 in
theorem al_ck_X8_keepLatent : ev_ckMe al_more al_cl al_dfl al_tyf al_mk "TableTongue$Part" (ev_unM al_mX8_keepLatent, 0) = true := by decide +kernel
theorem al_kk_X8_keepLatent : ev_ckK al_mX8_keepLatent.2.2.2.2 = true := by decide +kernel
set_option maxRecDepth 100000 in
theorem al_ck_X8_putWords : ev_ckMe al_more al_cl al_dfl al_tyf al_mk "TableTongue$Part" (ev_unM al_mX8_putWords, 0) = true := by decide +kernel
theorem al_kk_X8_putWords : ev_ckK al_mX8_putWords.2.2.2.2 = true := by decide +kernel
set_option maxRecDepth 100000 in
theorem al_ck_X1_fixed : ev_ckMe al_more al_cl al_dfl al_tyf al_mk "TableTongue$Part" (ev_unM al_mX1_fixed, 0) = true := by decide +kernel
theorem al_kk_X1_fixed : ev_ckK al_mX1_fixed.2.2.2.2 = true := by decide +kernel
set_option maxRecDepth 100000 in
theorem al_ck_X12_hidden : ev_ckMe al_more al_cl al_dfl al_tyf al_mk "TableTongue$Part" (ev_unM al_mX12_hidden, 0) = true := by decide +kernel
theorem al_kk_X12_hidden : ev_ckK al_mX12_hidden.2.2.2.2 = true := by decide +kernel
set_option maxRecDepth 100000 in
theorem al_ck_X12_word : ev_ckMe al_more al_cl al_dfl al_tyf al_mk "TableTongue$Part" (ev_unM al_mX12_word, 0) = true := by decide +kernel
theorem al_kk_X12_word : ev_ckK al_mX12_word.2.2.2.2 = true := by decide +kernel
set_option maxRecDepth 100000 in
theorem al_ck_X12_intern : ev_ckMe al_more al_cl al_dfl al_tyf al_mk "TableTongue$Part" (ev_unM al_mX12_intern, 0) = true := by decide +kernel
theorem al_kk_X12_intern : ev_ckK al_mX12_intern.2.2.2.2 = true := by decide +kernel
set_option maxRecDepth 100000 in
theorem al_ck_X12_readText : ev_ckMe al_more al_cl al_dfl al_tyf al_mk "TableTongue$Part" (ev_unM al_mX12_readText, 0) = true := by decide +kernel
theorem al_kk_X12_readText : ev_ckK al_mX12_readText.2.2.2.2 = true := by decide +kernel
set_option maxRecDepth 100000 in
theorem al_ck_X12_goOnStatement : ev_ckMe al_more al_cl al_dfl al_tyf al_mk "TableTongue$Part" (ev_unM al_mX12_goOnStatement, 0) = true := by decide +kernel
theorem al_kk_X12_goOnStatement : ev_ckK al_mX12_goOnStatement.2.2.2.2 = true := by decide +kernel
set_option maxRecDepth 100000 in
theorem al_ck_X12_object : ev_ckMe al_more al_cl al_dfl al_tyf al_mk "TableTongue$Part" (ev_unM al_mX12_object, 0) = true := by decide +kernel
theorem al_kk_X12_object : ev_ckK al_mX12_object.2.2.2.2 = true := by decide +kernel
set_option maxRecDepth 100000 in
theorem al_ck_X12_forget : ev_ckMe al_more al_cl al_dfl al_tyf al_mk "TableTongue$Part" (ev_unM al_mX12_forget, 0) = true := by decide +kernel
theorem al_kk_X12_forget : ev_ckK al_mX12_forget.2.2.2.2 = true := by decide +kernel
set_option maxRecDepth 100000 in
theorem al_ck_X8_dropText : ev_ckMe al_more al_cl al_dfl al_tyf al_mk "TableTongue$Part" (ev_unM al_mX8_dropText, 0) = true := by decide +kernel
theorem al_kk_X8_dropText : ev_ckK al_mX8_dropText.2.2.2.2 = true := by decide +kernel
set_option maxRecDepth 100000 in
theorem al_ck_X6_clear : ev_ckMe al_more al_cl al_dfl al_tyf al_mk "TableTongue$Part" (ev_unM al_mX6_clear, 0) = true := by decide +kernel
theorem al_kk_X6_clear : ev_ckK al_mX6_clear.2.2.2.2 = true := by decide +kernel
set_option maxRecDepth 100000 in
theorem al_ck_X9_init : ev_ckMe al_more al_cl al_dfl al_tyf al_mk "TableTongue$Part" (ev_unM al_mX9_init, 2) = true := by decide +kernel
theorem al_kk_X9_init : ev_ckK al_mX9_init.2.2.2.2 = true := by decide +kernel
set_option maxRecDepth 100000 in
theorem al_ck_X3_init : ev_ckMe al_more al_cl al_dfl al_tyf al_mk "TableTongue$Part" (ev_unM al_mX3_init, 2) = true := by decide +kernel
theorem al_kk_X3_init : ev_ckK al_mX3_init.2.2.2.2 = true := by decide +kernel
set_option maxRecDepth 100000 in
theorem al_ck_X3_clear : ev_ckMe al_more al_cl al_dfl al_tyf al_mk "TableTongue$Part" (ev_unM al_mX3_clear, 0) = true := by decide +kernel
theorem al_kk_X3_clear : ev_ckK al_mX3_clear.2.2.2.2 = true := by decide +kernel
set_option maxRecDepth 100000 in
theorem al_ck_X5_open : ev_ckMe al_more al_cl al_dfl al_tyf al_mk "TableTongue$Part" (ev_unM al_mX5_open, 0) = true := by decide +kernel
theorem al_kk_X5_open : ev_ckK al_mX5_open.2.2.2.2 = true := by decide +kernel
set_option maxRecDepth 100000 in
theorem al_ck_X10_begin : ev_ckMe al_more al_cl al_dfl al_tyf al_mk "TableTongue$Part" (ev_unM al_mX10_begin, 0) = true := by decide +kernel
theorem al_kk_X10_begin : ev_ckK al_mX10_begin.2.2.2.2 = true := by decide +kernel
set_option maxRecDepth 100000 in
theorem al_ck_X4_startsStatement : ev_ckMe al_more al_cl al_dfl al_tyf al_mk "TableTongue$Part" (ev_unM al_mX4_startsStatement, 0) = true := by decide +kernel
theorem al_kk_X4_startsStatement : ev_ckK al_mX4_startsStatement.2.2.2.2 = true := by decide +kernel
set_option maxRecDepth 100000 in
theorem al_ck_X7_init : ev_ckMe al_more al_cl al_dfl al_tyf al_mk "TableTongue$Part" (ev_unM al_mX7_init, 2) = true := by decide +kernel
theorem al_kk_X7_init : ev_ckK al_mX7_init.2.2.2.2 = true := by decide +kernel
set_option maxRecDepth 100000 in
theorem al_ck_X0_clear : ev_ckMe al_more al_cl al_dfl al_tyf al_mk "TableTongue$Part" (ev_unM al_mX0_clear, 0) = true := by decide +kernel
theorem al_kk_X0_clear : ev_ckK al_mX0_clear.2.2.2.2 = true := by decide +kernel
set_option maxRecDepth 100000 in
theorem al_ck_X1_init : ev_ckMe al_more al_cl al_dfl al_tyf al_mk "TableTongue$Part" (ev_unM al_mX1_init, 2) = true := by decide +kernel
theorem al_kk_X1_init : ev_ckK al_mX1_init.2.2.2.2 = true := by decide +kernel
set_option maxRecDepth 100000 in
theorem al_ck_J0_substring_b52d3 : ev_ckMe al_more al_cl al_dfl al_tyf al_mk "TableTongue$Part" (ev_unM al_mJ0_substring_b52d3, 0) = true := by decide +kernel
theorem al_kk_J0_substring_b52d3 : ev_ckK al_mJ0_substring_b52d3.2.2.2.2 = true := by decide +kernel
set_option maxRecDepth 100000 in
theorem al_ck_J1_canEncode_9a6ad : ev_ckMe al_more al_cl al_dfl al_tyf al_mk "TableTongue$Part" (ev_unM al_mJ1_canEncode_9a6ad, 1) = true := by decide +kernel
theorem al_kk_J1_canEncode_9a6ad : ev_ckK al_mJ1_canEncode_9a6ad.2.2.2.2 = true := by decide +kernel
set_option maxRecDepth 100000 in
theorem al_ck_J3_checkFromToIndex_8c36e : ev_ckMe al_more al_cl al_dfl al_tyf al_mk "TableTongue$Part" (ev_unM al_mJ3_checkFromToIndex_8c36e, 1) = true := by decide +kernel
theorem al_kk_J3_checkFromToIndex_8c36e : ev_ckK al_mJ3_checkFromToIndex_8c36e.2.2.2.2 = true := by decide +kernel
set_option maxRecDepth 100000 in
theorem al_ck_J7_copyOfRange_39247 : ev_ckMe al_more al_cl al_dfl al_tyf al_mk "TableTongue$Part" (ev_unM al_mJ7_copyOfRange_39247, 1) = true := by decide +kernel
theorem al_kk_J7_copyOfRange_39247 : ev_ckK al_mJ7_copyOfRange_39247.2.2.2.2 = true := by decide +kernel
