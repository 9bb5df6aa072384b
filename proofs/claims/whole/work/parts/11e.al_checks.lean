/-! ===== 11e: the tables checked: the reference's constructor ===== -/
theorem ev_all_split {α : Type} {p : α → Bool} {l : List α} (n : Nat) (h1 : (l.take n).all p = true) (h2 : (l.drop n).all p = true) : l.all p = true := by
  rw [← List.take_append_drop n l, List.all_append, h1, h2]
  rfl
abbrev al_ck0 : List ev_I → Bool := fun l => l.all (ev_ck al_more al_cl al_dfl al_tyf al_mk "TableTongue$Part" al_yX12_init.cls (decide (al_yX12_init.name = "<init>")) prog_14_method_1_code)
abbrev al_c0 : List (List ev_I) := ev_un al_mX12_init.2.2.2.2
set_option maxRecDepth 100000 in
theorem al_cki_0 : (List.take 8 al_c0).all al_ck0 = true := by decide +kernel
set_option maxRecDepth 100000 in
theorem al_cki_1 : (List.take 8 (List.drop 8 al_c0)).all al_ck0 = true := by decide +kernel
set_option maxRecDepth 100000 in
theorem al_cki_2 : (List.take 8 (List.drop 8 (List.drop 8 al_c0))).all al_ck0 = true := by decide +kernel
set_option maxRecDepth 100000 in
theorem al_cki_3 : (List.take 8 (List.drop 8 (List.drop 8 (List.drop 8 al_c0)))).all al_ck0 = true := by decide +kernel
set_option maxRecDepth 100000 in
theorem al_cki_4 : (List.take 8 (List.drop 8 (List.drop 8 (List.drop 8 (List.drop 8 al_c0))))).all al_ck0 = true := by decide +kernel
set_option maxRecDepth 100000 in
theorem al_cki_5 : (List.take 8 (List.drop 8 (List.drop 8 (List.drop 8 (List.drop 8 (List.drop 8 al_c0)))))).all al_ck0 = true := by decide +kernel
set_option maxRecDepth 100000 in
theorem al_cki_6 : (List.take 8 (List.drop 8 (List.drop 8 (List.drop 8 (List.drop 8 (List.drop 8 (List.drop 8 al_c0))))))).all al_ck0 = true := by decide +kernel
set_option maxRecDepth 100000 in
theorem al_cki_7 : (List.take 8 (List.drop 8 (List.drop 8 (List.drop 8 (List.drop 8 (List.drop 8 (List.drop 8 (List.drop 8 al_c0)))))))).all al_ck0 = true := by decide +kernel
theorem al_cki_end : (List.drop 8 (List.drop 8 (List.drop 8 (List.drop 8 (List.drop 8 (List.drop 8 (List.drop 8 (List.drop 8 al_c0)))))))).all al_ck0 = true := by decide +kernel
theorem al_ck_X12_init : ev_ckMe al_more al_cl al_dfl al_tyf al_mk "TableTongue$Part" (ev_unM al_mX12_init, 2) = true := by
  have h : al_c0.all al_ck0 = true := (ev_all_split 8 al_cki_0 (ev_all_split 8 al_cki_1 (ev_all_split 8 al_cki_2 (ev_all_split 8 al_cki_3 (ev_all_split 8 al_cki_4 (ev_all_split 8 al_cki_5 (ev_all_split 8 al_cki_6 (ev_all_split 8 al_cki_7 al_cki_end))))))))
  exact Bool.and_eq_true_iff.mpr ⟨by decide +kernel, h⟩
theorem al_kk_X12_init : ev_ckK al_mX12_init.2.2.2.2 = true := by decide +kernel
