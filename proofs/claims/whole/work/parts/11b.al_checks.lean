/-! ===== 11b: the tables checked ===== -/
set_option maxRecDepth 100000 in
theorem al_ck_J0_charAt_5068e : ev_ckMe al_more al_cl al_dfl al_tyf al_mk "TableTongue$Part" (ev_unM al_mJ0_charAt_5068e, 0) = true := by decide +kernel
theorem al_kk_J0_charAt_5068e : ev_ckK al_mJ0_charAt_5068e.2.2.2.2 = true := by decide +kernel
set_option maxRecDepth 100000 in
theorem al_ck_J0_length_8abf5 : ev_ckMe al_more al_cl al_dfl al_tyf al_mk "TableTongue$Part" (ev_unM al_mJ0_length_8abf5, 0) = true := by decide +kernel
theorem al_kk_J0_length_8abf5 : ev_ckK al_mJ0_length_8abf5.2.2.2.2 = true := by decide +kernel
set_option maxRecDepth 100000 in
theorem al_ck_X8_add : ev_ckMe al_more al_cl al_dfl al_tyf al_mk "TableTongue$Part" (ev_unM al_mX8_add, 0) = true := by decide +kernel
theorem al_kk_X8_add : ev_ckK al_mX8_add.2.2.2.2 = true := by decide +kernel
set_option maxRecDepth 100000 in
theorem al_ck_X12_internBuilt : ev_ckMe al_more al_cl al_dfl al_tyf al_mk "TableTongue$Part" (ev_unM al_mX12_internBuilt, 0) = true := by decide +kernel
theorem al_kk_X12_internBuilt : ev_ckK al_mX12_internBuilt.2.2.2.2 = true := by decide +kernel
set_option maxRecDepth 100000 in
theorem al_ck_X12_compile : ev_ckMe al_more al_cl al_dfl al_tyf al_mk "TableTongue$Part" (ev_unM al_mX12_compile, 0) = true := by decide +kernel
theorem al_kk_X12_compile : ev_ckK al_mX12_compile.2.2.2.2 = true := by decide +kernel
set_option maxRecDepth 100000 in
theorem al_ck_X12_at : ev_ckMe al_more al_cl al_dfl al_tyf al_mk "TableTongue$Part" (ev_unM al_mX12_at, 0) = true := by decide +kernel
theorem al_kk_X12_at : ev_ckK al_mX12_at.2.2.2.2 = true := by decide +kernel
set_option maxRecDepth 100000 in
theorem al_ck_X12_emit : ev_ckMe al_more al_cl al_dfl al_tyf al_mk "TableTongue$Part" (ev_unM al_mX12_emit, 0) = true := by decide +kernel
theorem al_kk_X12_emit : ev_ckK al_mX12_emit.2.2.2.2 = true := by decide +kernel
set_option maxRecDepth 100000 in
theorem al_ck_X12_goOn : ev_ckMe al_more al_cl al_dfl al_tyf al_mk "TableTongue$Part" (ev_unM al_mX12_goOn, 0) = true := by decide +kernel
theorem al_kk_X12_goOn : ev_ckK al_mX12_goOn.2.2.2.2 = true := by decide +kernel
set_option maxRecDepth 100000 in
theorem al_ck_X12_reload : ev_ckMe al_more al_cl al_dfl al_tyf al_mk "TableTongue$Part" (ev_unM al_mX12_reload, 0) = true := by decide +kernel
theorem al_kk_X12_reload : ev_ckK al_mX12_reload.2.2.2.2 = true := by decide +kernel
set_option maxRecDepth 100000 in
theorem al_ck_X11_compile : ev_ckMe al_more al_cl al_dfl al_tyf al_mk "TableTongue$Part" (ev_unM al_mX11_compile, 0) = true := by decide +kernel
theorem al_kk_X11_compile : ev_ckK al_mX11_compile.2.2.2.2 = true := by decide +kernel
set_option maxRecDepth 100000 in
theorem al_ck_X11_forget : ev_ckMe al_more al_cl al_dfl al_tyf al_mk "TableTongue$Part" (ev_unM al_mX11_forget, 0) = true := by decide +kernel
theorem al_kk_X11_forget : ev_ckK al_mX11_forget.2.2.2.2 = true := by decide +kernel
set_option maxRecDepth 100000 in
theorem al_ck_X8_init : ev_ckMe al_more al_cl al_dfl al_tyf al_mk "TableTongue$Part" (ev_unM al_mX8_init, 2) = true := by decide +kernel
theorem al_kk_X8_init : ev_ckK al_mX8_init.2.2.2.2 = true := by decide +kernel
set_option maxRecDepth 100000 in
theorem al_ck_X8_cutTo : ev_ckMe al_more al_cl al_dfl al_tyf al_mk "TableTongue$Part" (ev_unM al_mX8_cutTo, 0) = true := by decide +kernel
theorem al_kk_X8_cutTo : ev_ckK al_mX8_cutTo.2.2.2.2 = true := by decide +kernel
set_option maxRecDepth 100000 in
theorem al_ck_X6_emit : ev_ckMe al_more al_cl al_dfl al_tyf al_mk "TableTongue$Part" (ev_unM al_mX6_emit, 0) = true := by decide +kernel
theorem al_kk_X6_emit : ev_ckK al_mX6_emit.2.2.2.2 = true := by decide +kernel
set_option maxRecDepth 100000 in
theorem al_ck_X9_put : ev_ckMe al_more al_cl al_dfl al_tyf al_mk "TableTongue$Part" (ev_unM al_mX9_put, 0) = true := by decide +kernel
theorem al_kk_X9_put : ev_ckK al_mX9_put.2.2.2.2 = true := by decide +kernel
set_option maxRecDepth 100000 in
theorem al_ck_X5_init : ev_ckMe al_more al_cl al_dfl al_tyf al_mk "TableTongue$Part" (ev_unM al_mX5_init, 2) = true := by decide +kernel
theorem al_kk_X5_init : ev_ckK al_mX5_init.2.2.2.2 = true := by decide +kernel
set_option maxRecDepth 100000 in
theorem al_ck_X10_open : ev_ckMe al_more al_cl al_dfl al_tyf al_mk "TableTongue$Part" (ev_unM al_mX10_open, 0) = true := by decide +kernel
theorem al_kk_X10_open : ev_ckK al_mX10_open.2.2.2.2 = true := by decide +kernel
set_option maxRecDepth 100000 in
theorem al_ck_X4_init : ev_ckMe al_more al_cl al_dfl al_tyf al_mk "TableTongue$Part" (ev_unM al_mX4_init, 2) = true := by decide +kernel
theorem al_kk_X4_init : ev_ckK al_mX4_init.2.2.2.2 = true := by decide +kernel
set_option maxRecDepth 100000 in
theorem al_ck_X4_emit : ev_ckMe al_more al_cl al_dfl al_tyf al_mk "TableTongue$Part" (ev_unM al_mX4_emit, 0) = true := by decide +kernel
theorem al_kk_X4_emit : ev_ckK al_mX4_emit.2.2.2.2 = true := by decide +kernel
set_option maxRecDepth 100000 in
theorem al_ck_X4_block : ev_ckMe al_more al_cl al_dfl al_tyf al_mk "TableTongue$Part" (ev_unM al_mX4_block, 0) = true := by decide +kernel
theorem al_kk_X4_block : ev_ckK al_mX4_block.2.2.2.2 = true := by decide +kernel
set_option maxRecDepth 100000 in
theorem al_ck_X7_height : ev_ckMe al_more al_cl al_dfl al_tyf al_mk "TableTongue$Part" (ev_unM al_mX7_height, 0) = true := by decide +kernel
theorem al_kk_X7_height : ev_ckK al_mX7_height.2.2.2.2 = true := by decide +kernel
set_option maxRecDepth 100000 in
theorem al_ck_X2_init : ev_ckMe al_more al_cl al_dfl al_tyf al_mk "TableTongue$Part" (ev_unM al_mX2_init, 2) = true := by decide +kernel
theorem al_kk_X2_init : ev_ckK al_mX2_init.2.2.2.2 = true := by decide +kernel
set_option maxRecDepth 100000 in
theorem al_ck_X1_furnish : ev_ckMe al_more al_cl al_dfl al_tyf al_mk "TableTongue$Part" (ev_unM al_mX1_furnish, 0) = true := by decide +kernel
theorem al_kk_X1_furnish : ev_ckK al_mX1_furnish.2.2.2.2 = true := by decide +kernel
set_option maxRecDepth 100000 in
theorem al_ck_J0_init_031fb : ev_ckMe al_more al_cl al_dfl al_tyf al_mk "TableTongue$Part" (ev_unM al_mJ0_init_031fb, 2) = true := by decide +kernel
theorem al_kk_J0_init_031fb : ev_ckK al_mJ0_init_031fb.2.2.2.2 = true := by decide +kernel
set_option maxRecDepth 100000 in
theorem al_ck_J1_indexOf_4cfef : ev_ckMe al_more al_cl al_dfl al_tyf al_mk "TableTongue$Part" (ev_unM al_mJ1_indexOf_4cfef, 1) = true := by decide +kernel
theorem al_kk_J1_indexOf_4cfef : ev_ckK al_mJ1_indexOf_4cfef.2.2.2.2 = true := by decide +kernel
set_option maxRecDepth 100000 in
theorem al_ck_J7_fill_031fb : ev_ckMe al_more al_cl al_dfl al_tyf al_mk "TableTongue$Part" (ev_unM al_mJ7_fill_031fb, 1) = true := by decide +kernel
theorem al_kk_J7_fill_031fb : ev_ckK al_mJ7_fill_031fb.2.2.2.2 = true := by decide +kernel
