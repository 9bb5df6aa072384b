/-! ===== 11: the reference's constructor, evaluated ===== -/
set_option maxRecDepth 100000 in
theorem mo_ev_t : (ev_metK 0 mo_dfl mo_mtK 8 0 [36893488147419103232] [(0, 160, mo_dfl 0)]).isSome = true := by decide +kernel
