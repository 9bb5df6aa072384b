/-! ===== 11: tests ===== -/
def tt_code (kg : Nat) : List (List ev_KI) := [[((0, .goto 0, 3, 0, 0, 0, 0), kg, 0)]]
set_option maxRecDepth 100000 in
theorem tt_1 : (ev_runK 0 (fun _ => 0) (fun _ _ _ => none) (tt_code 37) none 8000 0 [0] [] [] 0 0).isNone = true := by decide +kernel
