/-! ===== 19a: forget(): pieces ===== -/
abbrev al_fc : List (List ev_KI) := al_mX12_forget.2.2.2.2
theorem al_fk : ev_ckK al_fc = true := al_kk_X12_forget
set_option maxRecDepth 100000 in
theorem al_g1 : ev_goes 0 al_dfl (ev_met 0 al_dfl al_mt 6) (ev_un al_fc) none 1400 ((0, [36893488147419103232, 73786976294838206464], []), al_h20, 0, 0) ((66, [36893488147419103232, 0], []), al_h20, 0, 0) := ev_runN_ok (c1 := ev_metQ 0 al_dfl al_mtK [] 6) (fun mid as h r q => ev_metQ_ok (D := 0) al_kkAll (fun x hx => absurd hx List.not_mem_nil) 6 mid as h r q) al_fk none 1400 0 [36893488147419103232, 73786976294838206464] [] al_h20 0 0 (ev_chkG_ok (by decide +kernel))
set_option maxRecDepth 100000 in
theorem al_g2 : ev_goes 0 al_dfl (ev_met 0 al_dfl al_mt 6) (ev_un al_fc) none 10240 ((66, [36893488147419103232, 0], []), al_h20, 0, 0) ((66, [36893488147419103232, 1024], []), al_h21, 0, 0) := ev_runN_ok (c1 := ev_metQ 0 al_dfl al_mtK [] 6) (fun mid as h r q => ev_metQ_ok (D := 0) al_kkAll (fun x hx => absurd hx List.not_mem_nil) 6 mid as h r q) al_fk none 10240 66 [36893488147419103232, 0] [] al_h20 0 0 (ev_chkG_ok (by decide +kernel))
set_option maxRecDepth 100000 in
theorem al_g3 : ev_goes 0 al_dfl (ev_met 0 al_dfl al_mt 6) (ev_un al_fc) none 10240 ((66, [36893488147419103232, 1024], []), al_h21, 0, 0) ((66, [36893488147419103232, 2048], []), al_h22, 0, 0) := ev_runN_ok (c1 := ev_metQ 0 al_dfl al_mtK [] 6) (fun mid as h r q => ev_metQ_ok (D := 0) al_kkAll (fun x hx => absurd hx List.not_mem_nil) 6 mid as h r q) al_fk none 10240 66 [36893488147419103232, 1024] [] al_h21 0 0 (ev_chkG_ok (by decide +kernel))
