/-! ===== 11b: the reference: its tables checked, the other methods ===== -/
set_option maxRecDepth 100000 in
theorem mo_ck_internBuilt : ev_ckMe mo_more mo_cl mo_dfl mo_tyf mo_mk (ev_unM mo_mX12_internBuilt, 0) = true := by decide +kernel
theorem mo_kk_internBuilt : ev_ckK mo_mX12_internBuilt.2.2.2.2 = true := by decide +kernel
set_option maxRecDepth 100000 in
theorem mo_ck_internTypes : ev_ckMe mo_more mo_cl mo_dfl mo_tyf mo_mk (ev_unM mo_mX12_internTypes, 0) = true := by decide +kernel
theorem mo_kk_internTypes : ev_ckK mo_mX12_internTypes.2.2.2.2 = true := by decide +kernel
set_option maxRecDepth 100000 in
theorem mo_ck_internNames : ev_ckMe mo_more mo_cl mo_dfl mo_tyf mo_mk (ev_unM mo_mX12_internNames, 0) = true := by decide +kernel
theorem mo_kk_internNames : ev_ckK mo_mX12_internNames.2.2.2.2 = true := by decide +kernel
set_option maxRecDepth 100000 in
theorem mo_ck_hidden : ev_ckMe mo_more mo_cl mo_dfl mo_tyf mo_mk (ev_unM mo_mX12_hidden, 0) = true := by decide +kernel
theorem mo_kk_hidden : ev_ckK mo_mX12_hidden.2.2.2.2 = true := by decide +kernel
set_option maxRecDepth 100000 in
theorem mo_ck_word : ev_ckMe mo_more mo_cl mo_dfl mo_tyf mo_mk (ev_unM mo_mX12_word, 0) = true := by decide +kernel
theorem mo_kk_word : ev_ckK mo_mX12_word.2.2.2.2 = true := by decide +kernel
set_option maxRecDepth 100000 in
theorem mo_ck_intern : ev_ckMe mo_more mo_cl mo_dfl mo_tyf mo_mk (ev_unM mo_mX12_intern, 0) = true := by decide +kernel
theorem mo_kk_intern : ev_ckK mo_mX12_intern.2.2.2.2 = true := by decide +kernel
set_option maxRecDepth 100000 in
theorem mo_ck_hashOf : ev_ckMe mo_more mo_cl mo_dfl mo_tyf mo_mk (ev_unM mo_mX12_hashOf, 0) = true := by decide +kernel
theorem mo_kk_hashOf : ev_ckK mo_mX12_hashOf.2.2.2.2 = true := by decide +kernel
set_option maxRecDepth 100000 in
theorem mo_ck_compile : ev_ckMe mo_more mo_cl mo_dfl mo_tyf mo_mk (ev_unM mo_mX12_compile, 0) = true := by decide +kernel
theorem mo_kk_compile : ev_ckK mo_mX12_compile.2.2.2.2 = true := by decide +kernel
set_option maxRecDepth 100000 in
theorem mo_ck_forgetFrom : ev_ckMe mo_more mo_cl mo_dfl mo_tyf mo_mk (ev_unM mo_mX12_forgetFrom, 0) = true := by decide +kernel
theorem mo_kk_forgetFrom : ev_ckK mo_mX12_forgetFrom.2.2.2.2 = true := by decide +kernel
set_option maxRecDepth 100000 in
theorem mo_ck_readTokens : ev_ckMe mo_more mo_cl mo_dfl mo_tyf mo_mk (ev_unM mo_mX12_readTokens, 0) = true := by decide +kernel
theorem mo_kk_readTokens : ev_ckK mo_mX12_readTokens.2.2.2.2 = true := by decide +kernel
set_option maxRecDepth 100000 in
theorem mo_ck_skip : ev_ckMe mo_more mo_cl mo_dfl mo_tyf mo_mk (ev_unM mo_mX12_skip, 0) = true := by decide +kernel
theorem mo_kk_skip : ev_ckK mo_mX12_skip.2.2.2.2 = true := by decide +kernel
set_option maxRecDepth 100000 in
theorem mo_ck_at : ev_ckMe mo_more mo_cl mo_dfl mo_tyf mo_mk (ev_unM mo_mX12_at, 0) = true := by decide +kernel
theorem mo_kk_at : ev_ckK mo_mX12_at.2.2.2.2 = true := by decide +kernel
set_option maxRecDepth 100000 in
theorem mo_ck_readText : ev_ckMe mo_more mo_cl mo_dfl mo_tyf mo_mk (ev_unM mo_mX12_readText, 0) = true := by decide +kernel
theorem mo_kk_readText : ev_ckK mo_mX12_readText.2.2.2.2 = true := by decide +kernel
set_option maxRecDepth 100000 in
theorem mo_ck_emit : ev_ckMe mo_more mo_cl mo_dfl mo_tyf mo_mk (ev_unM mo_mX12_emit, 0) = true := by decide +kernel
theorem mo_kk_emit : ev_ckK mo_mX12_emit.2.2.2.2 = true := by decide +kernel
set_option maxRecDepth 100000 in
theorem mo_ck_later : ev_ckMe mo_more mo_cl mo_dfl mo_tyf mo_mk (ev_unM mo_mX12_later, 0) = true := by decide +kernel
theorem mo_kk_later : ev_ckK mo_mX12_later.2.2.2.2 = true := by decide +kernel
set_option maxRecDepth 100000 in
theorem mo_ck_goOn : ev_ckMe mo_more mo_cl mo_dfl mo_tyf mo_mk (ev_unM mo_mX12_goOn, 0) = true := by decide +kernel
theorem mo_kk_goOn : ev_ckK mo_mX12_goOn.2.2.2.2 = true := by decide +kernel
set_option maxRecDepth 100000 in
theorem mo_ck_readBlock : ev_ckMe mo_more mo_cl mo_dfl mo_tyf mo_mk (ev_unM mo_mX12_readBlock, 0) = true := by decide +kernel
theorem mo_kk_readBlock : ev_ckK mo_mX12_readBlock.2.2.2.2 = true := by decide +kernel
set_option maxRecDepth 100000 in
theorem mo_ck_isWord : ev_ckMe mo_more mo_cl mo_dfl mo_tyf mo_mk (ev_unM mo_mX12_isWord, 0) = true := by decide +kernel
theorem mo_kk_isWord : ev_ckK mo_mX12_isWord.2.2.2.2 = true := by decide +kernel
set_option maxRecDepth 100000 in
theorem mo_ck_beginsStatement : ev_ckMe mo_more mo_cl mo_dfl mo_tyf mo_mk (ev_unM mo_mX12_beginsStatement, 0) = true := by decide +kernel
theorem mo_kk_beginsStatement : ev_ckK mo_mX12_beginsStatement.2.2.2.2 = true := by decide +kernel
set_option maxRecDepth 100000 in
theorem mo_ck_isSign : ev_ckMe mo_more mo_cl mo_dfl mo_tyf mo_mk (ev_unM mo_mX12_isSign, 0) = true := by decide +kernel
theorem mo_kk_isSign : ev_ckK mo_mX12_isSign.2.2.2.2 = true := by decide +kernel
set_option maxRecDepth 100000 in
theorem mo_ck_goOnStatement : ev_ckMe mo_more mo_cl mo_dfl mo_tyf mo_mk (ev_unM mo_mX12_goOnStatement, 0) = true := by decide +kernel
theorem mo_kk_goOnStatement : ev_ckK mo_mX12_goOnStatement.2.2.2.2 = true := by decide +kernel
set_option maxRecDepth 100000 in
theorem mo_ck_reload : ev_ckMe mo_more mo_cl mo_dfl mo_tyf mo_mk (ev_unM mo_mX12_reload, 0) = true := by decide +kernel
theorem mo_kk_reload : ev_ckK mo_mX12_reload.2.2.2.2 = true := by decide +kernel
set_option maxRecDepth 100000 in
theorem mo_ck_fill : ev_ckMe mo_more mo_cl mo_dfl mo_tyf mo_mk (ev_unM mo_mX12_fill, 0) = true := by decide +kernel
theorem mo_kk_fill : ev_ckK mo_mX12_fill.2.2.2.2 = true := by decide +kernel
set_option maxRecDepth 100000 in
theorem mo_ck_set : ev_ckMe mo_more mo_cl mo_dfl mo_tyf mo_mk (ev_unM mo_mX12_set, 0) = true := by decide +kernel
theorem mo_kk_set : ev_ckK mo_mX12_set.2.2.2.2 = true := by decide +kernel
set_option maxRecDepth 100000 in
theorem mo_ck_placeOf : ev_ckMe mo_more mo_cl mo_dfl mo_tyf mo_mk (ev_unM mo_mX12_placeOf, 0) = true := by decide +kernel
theorem mo_kk_placeOf : ev_ckK mo_mX12_placeOf.2.2.2.2 = true := by decide +kernel
set_option maxRecDepth 100000 in
theorem mo_ck_keyHash : ev_ckMe mo_more mo_cl mo_dfl mo_tyf mo_mk (ev_unM mo_mX12_keyHash, 1) = true := by decide +kernel
theorem mo_kk_keyHash : ev_ckK mo_mX12_keyHash.2.2.2.2 = true := by decide +kernel
set_option maxRecDepth 100000 in
theorem mo_ck_object : ev_ckMe mo_more mo_cl mo_dfl mo_tyf mo_mk (ev_unM mo_mX12_object, 0) = true := by decide +kernel
theorem mo_kk_object : ev_ckK mo_mX12_object.2.2.2.2 = true := by decide +kernel
set_option maxRecDepth 100000 in
theorem mo_ck_how : ev_ckMe mo_more mo_cl mo_dfl mo_tyf mo_mk (ev_unM mo_mX12_how, 0) = true := by decide +kernel
theorem mo_kk_how : ev_ckK mo_mX12_how.2.2.2.2 = true := by decide +kernel
set_option maxRecDepth 100000 in
theorem mo_ck_openFrame : ev_ckMe mo_more mo_cl mo_dfl mo_tyf mo_mk (ev_unM mo_mX12_openFrame, 0) = true := by decide +kernel
theorem mo_kk_openFrame : ev_ckK mo_mX12_openFrame.2.2.2.2 = true := by decide +kernel
set_option maxRecDepth 100000 in
theorem mo_ck_forget : ev_ckMe mo_more mo_cl mo_dfl mo_tyf mo_mk (ev_unM mo_mX12_forget, 0) = true := by decide +kernel
theorem mo_kk_forget : ev_ckK mo_mX12_forget.2.2.2.2 = true := by decide +kernel
