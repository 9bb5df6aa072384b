/-! ===== 17d: the reference's constructor, whole ===== -/
noncomputable def al_tb3 : ev_Tb := [(18, [36893488147419103232], al_h16, (none, al_h17, 0, 0)), (19, [36893488147419103232], al_h17, (none, al_h18, 0, 0))]
theorem al_tb3_ok : ∀ x ∈ al_tb3, ev_met 0 al_dfl al_mt 10 x.1 x.2.1 x.2.2.1 = some x.2.2.2 := List.forall_mem_cons.mpr ⟨al_r1, List.forall_mem_cons.mpr ⟨al_r2, fun _ h => absurd h List.not_mem_nil⟩⟩
set_option maxRecDepth 100000 in
/-- X12_internBuilt: 39085 instructions -/
theorem al_r3 : ev_met 0 al_dfl al_mt 20 17 [36893488147419103232] al_h15 = some (none, al_h18, 0, 0) := al_e (D := 10) (tb := al_tb3) al_tb3_ok (by decide +kernel)
noncomputable def al_tb4 : ev_Tb := [(17, [36893488147419103232], al_h15, (none, al_h18, 0, 0))]
theorem al_tb4_ok : ∀ x ∈ al_tb4, ev_met 0 al_dfl al_mt 20 x.1 x.2.1 x.2.2.1 = some x.2.2.2 := List.forall_mem_cons.mpr ⟨al_r3, fun _ h => absurd h List.not_mem_nil⟩
set_option maxRecDepth 100000 in
/-- X12_init: 49743 instructions -/
theorem al_mctor : ev_met 0 al_dfl al_mt 30 16 [36893488147419103232] al_h14 = some (none, al_h19, 100, 1297774) := al_e (D := 20) (tb := al_tb4) al_tb4_ok (by decide +kernel)
