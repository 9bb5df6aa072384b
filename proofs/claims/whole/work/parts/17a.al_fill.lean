/-! ===== 17a: compile of the class: its fills ===== -/
set_option maxRecDepth 100000 in
/-- J7_fill_53178: 36873 instructions -/
theorem al_f0 : ev_met 0 al_dfl al_mt 10 104 [36893488147419103268, 0] al_h12 = some (none, al_h12, 0, 0) := al_e0 (by decide +kernel)
set_option maxRecDepth 100000 in
/-- J7_fill_031fb: 18018 instructions -/
theorem al_f1 : ev_met 0 al_dfl al_mt 10 105 [36893488147419103304, 0] al_h12 = some (none, al_h12, 0, 0) := al_e0 (by decide +kernel)
