/-! ===== 17c: the reference's constructor: its parts ===== -/
set_option maxRecDepth 100000 in
/-- X12_internTypes: 8626 instructions -/
theorem al_r1 : ev_met 0 al_dfl al_mt 10 18 [36893488147419103232] al_h16 = some (none, al_h17, 0, 0) := al_e0 (by decide +kernel)
set_option maxRecDepth 100000 in
/-- X12_internNames: 18063 instructions -/
theorem al_r2 : ev_met 0 al_dfl al_mt 10 19 [36893488147419103232] al_h17 = some (none, al_h18, 0, 0) := al_e0 (by decide +kernel)
