/-! ===== 15b: the class's constructor: its parts ===== -/
set_option maxRecDepth 100000 in
/-- X1_keepNames: 30794 instructions -/
theorem al_k4 : ev_met 0 al_dfl al_mt 10 90 [36893488147419103308, 92233720368547758085, 0] al_h6 = some ((some 12), al_h7, 24, 126) := al_e0 (by decide +kernel)
