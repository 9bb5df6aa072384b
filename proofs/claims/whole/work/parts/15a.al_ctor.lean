/-! ===== 15a: the class's constructor: its parts ===== -/
set_option maxRecDepth 100000 in
/-- X8_keepNames: 6769 instructions -/
theorem al_k0 : ev_met 0 al_dfl al_mt 10 51 [36893488147419103234, 92233720368547758080] al_h1 = some (none, al_h2, 0, 0) := al_e0 (by decide +kernel)
set_option maxRecDepth 100000 in
/-- X8_keepNames: 6562 instructions -/
theorem al_k1 : ev_met 0 al_dfl al_mt 10 51 [36893488147419103234, 92233720368547758081] al_h2 = some (none, al_h3, 0, 0) := al_e0 (by decide +kernel)
set_option maxRecDepth 100000 in
/-- X8_keepNames: 10615 instructions -/
theorem al_k2 : ev_met 0 al_dfl al_mt 10 51 [36893488147419103234, 92233720368547758082] al_h3 = some (none, al_h4, 0, 0) := al_e0 (by decide +kernel)
set_option maxRecDepth 100000 in
/-- X8_keepNames: 6667 instructions -/
theorem al_k3 : ev_met 0 al_dfl al_mt 10 51 [36893488147419103234, 92233720368547758083] al_h4 = some (none, al_h5, 0, 0) := al_e0 (by decide +kernel)
