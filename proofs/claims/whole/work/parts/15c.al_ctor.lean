/-! ===== 15c: the class's constructor: its parts ===== -/
set_option maxRecDepth 100000 in
/-- X1_keepNames: 26007 instructions -/
theorem al_k5 : ev_met 0 al_dfl al_mt 10 90 [36893488147419103308, 92233720368547758086, 12] al_h7 = some ((some 21), al_h8, 26, 151) := al_e0 (by decide +kernel)
