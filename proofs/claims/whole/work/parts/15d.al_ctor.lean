/-! ===== 15d: the class's constructor: its parts ===== -/
set_option maxRecDepth 100000 in
/-- X1_keepNames: 23802 instructions -/
theorem al_k6 : ev_met 0 al_dfl al_mt 10 90 [36893488147419103308, 92233720368547758087, 21] al_h8 = some ((some 30), al_h9, 36, 185) := al_e0 (by decide +kernel)
set_option maxRecDepth 100000 in
/-- X1_keepNames: 6010 instructions -/
theorem al_k7 : ev_met 0 al_dfl al_mt 10 90 [36893488147419103308, 92233720368547758088, 30] al_h9 = some ((some 32), al_h10, 6, 37) := al_e0 (by decide +kernel)
