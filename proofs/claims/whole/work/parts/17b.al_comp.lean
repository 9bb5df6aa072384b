/-! ===== 17b: the class compiles the empty text ===== -/
noncomputable def al_tb2 : ev_Tb := [(104, [36893488147419103268, 0], al_h12, (none, al_h12, 0, 0)), (105, [36893488147419103304, 0], al_h12, (none, al_h12, 0, 0))]
theorem al_tb2_ok : ∀ x ∈ al_tb2, ev_met 0 al_dfl al_mt 10 x.1 x.2.1 x.2.2.1 = some x.2.2.2 := List.forall_mem_cons.mpr ⟨al_f0, List.forall_mem_cons.mpr ⟨al_f1, fun _ h => absurd h List.not_mem_nil⟩⟩
set_option maxRecDepth 100000 in
/-- X11_compile: 66178 instructions -/
theorem al_xcomp : ev_met 0 al_dfl al_mt 20 48 [36893488147419103232] al_h11 = some ((some 1), al_h13, 0, 0) := al_e (D := 10) (tb := al_tb2) al_tb2_ok (by decide +kernel)
