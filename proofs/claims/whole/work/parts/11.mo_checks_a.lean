/-! ===== 11: the reference: its tables checked ===== -/
theorem ev_all_split {α : Type} {p : α → Bool} {l : List α} (n : Nat) (h1 : (l.take n).all p = true) (h2 : (l.drop n).all p = true) : l.all p = true := by
  rw [← List.take_append_drop n l, List.all_append, h1, h2]
  rfl
abbrev mo_ck0 : List ev_I → Bool := fun l => l.all (ev_ck mo_more mo_cl mo_dfl mo_tyf mo_mk mo_yX12_init.cls (decide (mo_yX12_init.name = "<init>")) prog_14_method_1_code)
abbrev mo_c0 : List (List ev_I) := ev_un mo_mX12_init.2.2.2.2
set_option maxRecDepth 100000 in
theorem mo_cki_0 : (List.take 8 mo_c0).all mo_ck0 = true := by decide +kernel
set_option maxRecDepth 100000 in
theorem mo_cki_1 : (List.take 8 (List.drop 8 mo_c0)).all mo_ck0 = true := by decide +kernel
set_option maxRecDepth 100000 in
theorem mo_cki_2 : (List.take 8 (List.drop 8 (List.drop 8 mo_c0))).all mo_ck0 = true := by decide +kernel
set_option maxRecDepth 100000 in
theorem mo_cki_3 : (List.take 8 (List.drop 8 (List.drop 8 (List.drop 8 mo_c0)))).all mo_ck0 = true := by decide +kernel
set_option maxRecDepth 100000 in
theorem mo_cki_4 : (List.take 8 (List.drop 8 (List.drop 8 (List.drop 8 (List.drop 8 mo_c0))))).all mo_ck0 = true := by decide +kernel
set_option maxRecDepth 100000 in
theorem mo_cki_5 : (List.take 8 (List.drop 8 (List.drop 8 (List.drop 8 (List.drop 8 (List.drop 8 mo_c0)))))).all mo_ck0 = true := by decide +kernel
set_option maxRecDepth 100000 in
theorem mo_cki_6 : (List.take 8 (List.drop 8 (List.drop 8 (List.drop 8 (List.drop 8 (List.drop 8 (List.drop 8 mo_c0))))))).all mo_ck0 = true := by decide +kernel
set_option maxRecDepth 100000 in
theorem mo_cki_7 : (List.take 8 (List.drop 8 (List.drop 8 (List.drop 8 (List.drop 8 (List.drop 8 (List.drop 8 (List.drop 8 mo_c0)))))))).all mo_ck0 = true := by decide +kernel
theorem mo_cki_end : (List.drop 8 (List.drop 8 (List.drop 8 (List.drop 8 (List.drop 8 (List.drop 8 (List.drop 8 (List.drop 8 mo_c0)))))))).all mo_ck0 = true := by decide +kernel
theorem mo_ck_init : ev_ckMe mo_more mo_cl mo_dfl mo_tyf mo_mk (ev_unM mo_mX12_init, 2) = true := by
  have h : mo_c0.all mo_ck0 = true := (ev_all_split 8 mo_cki_0 (ev_all_split 8 mo_cki_1 (ev_all_split 8 mo_cki_2 (ev_all_split 8 mo_cki_3 (ev_all_split 8 mo_cki_4 (ev_all_split 8 mo_cki_5 (ev_all_split 8 mo_cki_6 (ev_all_split 8 mo_cki_7 mo_cki_end))))))))
  exact Bool.and_eq_true_iff.mpr ⟨by decide +kernel, h⟩
theorem mo_kk_init : ev_ckK mo_mX12_init.2.2.2.2 = true := by decide +kernel
