/-! ===== 70: the reference's parser: leftOf, eventOf, strength, proto, know, beginsGiven, isParting, openLoop (by wip/whole2/law70.py) ===== -/
def lx_left (c : Nat) : Nat := if c = 60 ∨ c = 62 ∨ c = 302 ∨ c = 303 ∨ c = 304 ∨ c = 305 then 3 else if c = 124 then 4 else if c = 126 then 5 else if c = 38 then 6 else if c = 306 ∨ c = 307 then 7 else if c = 300 then 9 else if c = 43 ∨ c = 45 then 10 else if c = 37 ∨ c = 42 ∨ c = 308 then 11 else 0
theorem lx_left_lt (c : Nat) : lx_left c < 4294967296 := by
  unfold lx_left
  repeat' split
  all_goals decide
def lx_event (c : Nat) : Nat := if c = 43 then 3 else if c = 45 then 4 else if c = 42 then 5 else if c = 308 then 6 else if c = 37 then 7 else if c = 38 then 8 else if c = 124 then 9 else if c = 126 then 10 else if c = 306 then 11 else 12
def wv_strength (F : wq_F) : Nat := if ¬ wv_tok F 4 15 = 0 then 1 else if ¬ wv_tok F 4 1 = 0 then 2 else if wf_kind F = 5 then lx_left (ev_oL2i (18446744073709551616 + F 11 (F 0 25))) else 0
def wv_given (F : wq_F) : Nat := if ¬ wv_tok F 5 40 = 0 ∨ ¬ wv_tok F 5 123 = 0 ∨ wf_kind F = 3 then 1 else 0
def wv_parting (F : wq_F) : Nat := if ¬ wv_tok F 5 44 = 0 ∨ ¬ wv_tok F 5 59 = 0 then 1 else 0
def wf_know (F : wq_F) (x s : Nat) : wq_F := wq_up (wq_up (wq_up F 29 (F 0 50) x) 30 (F 0 50) s) 0 50 (F 0 50 + 1)
def wf_openLoop (F : wq_F) : wq_F := wq_up (wq_up (wq_up F 33 (F 0 56) 4294967295) 34 (F 0 56) (F 0 53)) 0 56 (F 0 56 + 1)
theorem wm_leftOf {F : wq_F} {d c : Nat} (hc : c < 4294967296) : mq (d + 1) 234 [c] wm_sh F (wq_k (some (lx_left c)) wm_sh F) := by
  have e : ev_ent [c] = [c] := by
    rw [wm_entI hc]
    rfl
  refine mq_of (maxL := 1) (rt := (some .int)) (code := (ev_un al_mX12_leftOf.2.2.2.2)) (L := [c]) rfl (by rw [e]; exact Nat.le_of_ble_eq_true rfl) (by rw [e]; rfl) ?_
  refine wq_iload_n rfl rfl hc ?_
  by_cases h1 : c = 37
  case pos =>
    refine wq_top h1 ?_
    refine wq_lsw rfl (by decide) rfl (tgt := 166) rfl ?_
    refine wq_bipush rfl rfl ?_
    refine wq_iret rfl (by decide) rfl ?_
    exact wq_k1 (by unfold lx_left; rw [if_neg (by omega), if_neg (by omega), if_neg (by omega), if_neg (by omega), if_neg (by omega), if_neg (by omega), if_neg (by omega), if_pos (by omega)])
  by_cases h2 : c = 38
  case pos =>
    refine wq_top h2 ?_
    refine wq_lsw rfl (by decide) rfl (tgt := 154) rfl ?_
    refine wq_bipush rfl rfl ?_
    refine wq_iret rfl (by decide) rfl ?_
    exact wq_k1 (by unfold lx_left; rw [if_neg (by omega), if_neg (by omega), if_neg (by omega), if_pos (by omega)])
  by_cases h3 : c = 42
  case pos =>
    refine wq_top h3 ?_
    refine wq_lsw rfl (by decide) rfl (tgt := 166) rfl ?_
    refine wq_bipush rfl rfl ?_
    refine wq_iret rfl (by decide) rfl ?_
    exact wq_k1 (by unfold lx_left; rw [if_neg (by omega), if_neg (by omega), if_neg (by omega), if_neg (by omega), if_neg (by omega), if_neg (by omega), if_neg (by omega), if_pos (by omega)])
  by_cases h4 : c = 43
  case pos =>
    refine wq_top h4 ?_
    refine wq_lsw rfl (by decide) rfl (tgt := 163) rfl ?_
    refine wq_bipush rfl rfl ?_
    refine wq_iret rfl (by decide) rfl ?_
    exact wq_k1 (by unfold lx_left; rw [if_neg (by omega), if_neg (by omega), if_neg (by omega), if_neg (by omega), if_neg (by omega), if_neg (by omega), if_pos (by omega)])
  by_cases h5 : c = 45
  case pos =>
    refine wq_top h5 ?_
    refine wq_lsw rfl (by decide) rfl (tgt := 163) rfl ?_
    refine wq_bipush rfl rfl ?_
    refine wq_iret rfl (by decide) rfl ?_
    exact wq_k1 (by unfold lx_left; rw [if_neg (by omega), if_neg (by omega), if_neg (by omega), if_neg (by omega), if_neg (by omega), if_neg (by omega), if_pos (by omega)])
  by_cases h6 : c = 60
  case pos =>
    refine wq_top h6 ?_
    refine wq_lsw rfl (by decide) rfl (tgt := 148) rfl ?_
    refine wq_iconst rfl rfl ?_
    refine wq_iret rfl (by decide) rfl ?_
    exact wq_k1 (by unfold lx_left; rw [if_pos (by omega)])
  by_cases h7 : c = 62
  case pos =>
    refine wq_top h7 ?_
    refine wq_lsw rfl (by decide) rfl (tgt := 148) rfl ?_
    refine wq_iconst rfl rfl ?_
    refine wq_iret rfl (by decide) rfl ?_
    exact wq_k1 (by unfold lx_left; rw [if_pos (by omega)])
  by_cases h8 : c = 124
  case pos =>
    refine wq_top h8 ?_
    refine wq_lsw rfl (by decide) rfl (tgt := 150) rfl ?_
    refine wq_iconst rfl rfl ?_
    refine wq_iret rfl (by decide) rfl ?_
    exact wq_k1 (by unfold lx_left; rw [if_neg (by omega), if_pos (by omega)])
  by_cases h9 : c = 126
  case pos =>
    refine wq_top h9 ?_
    refine wq_lsw rfl (by decide) rfl (tgt := 152) rfl ?_
    refine wq_iconst rfl rfl ?_
    refine wq_iret rfl (by decide) rfl ?_
    exact wq_k1 (by unfold lx_left; rw [if_neg (by omega), if_neg (by omega), if_pos (by omega)])
  by_cases h10 : c = 300
  case pos =>
    refine wq_top h10 ?_
    refine wq_lsw rfl (by decide) rfl (tgt := 160) rfl ?_
    refine wq_bipush rfl rfl ?_
    refine wq_iret rfl (by decide) rfl ?_
    exact wq_k1 (by unfold lx_left; rw [if_neg (by omega), if_neg (by omega), if_neg (by omega), if_neg (by omega), if_neg (by omega), if_pos (by omega)])
  by_cases h11 : c = 302
  case pos =>
    refine wq_top h11 ?_
    refine wq_lsw rfl (by decide) rfl (tgt := 148) rfl ?_
    refine wq_iconst rfl rfl ?_
    refine wq_iret rfl (by decide) rfl ?_
    exact wq_k1 (by unfold lx_left; rw [if_pos (by omega)])
  by_cases h12 : c = 303
  case pos =>
    refine wq_top h12 ?_
    refine wq_lsw rfl (by decide) rfl (tgt := 148) rfl ?_
    refine wq_iconst rfl rfl ?_
    refine wq_iret rfl (by decide) rfl ?_
    exact wq_k1 (by unfold lx_left; rw [if_pos (by omega)])
  by_cases h13 : c = 304
  case pos =>
    refine wq_top h13 ?_
    refine wq_lsw rfl (by decide) rfl (tgt := 148) rfl ?_
    refine wq_iconst rfl rfl ?_
    refine wq_iret rfl (by decide) rfl ?_
    exact wq_k1 (by unfold lx_left; rw [if_pos (by omega)])
  by_cases h14 : c = 305
  case pos =>
    refine wq_top h14 ?_
    refine wq_lsw rfl (by decide) rfl (tgt := 148) rfl ?_
    refine wq_iconst rfl rfl ?_
    refine wq_iret rfl (by decide) rfl ?_
    exact wq_k1 (by unfold lx_left; rw [if_pos (by omega)])
  by_cases h15 : c = 306
  case pos =>
    refine wq_top h15 ?_
    refine wq_lsw rfl (by decide) rfl (tgt := 157) rfl ?_
    refine wq_bipush rfl rfl ?_
    refine wq_iret rfl (by decide) rfl ?_
    exact wq_k1 (by unfold lx_left; rw [if_neg (by omega), if_neg (by omega), if_neg (by omega), if_neg (by omega), if_pos (by omega)])
  by_cases h16 : c = 307
  case pos =>
    refine wq_top h16 ?_
    refine wq_lsw rfl (by decide) rfl (tgt := 157) rfl ?_
    refine wq_bipush rfl rfl ?_
    refine wq_iret rfl (by decide) rfl ?_
    exact wq_k1 (by unfold lx_left; rw [if_neg (by omega), if_neg (by omega), if_neg (by omega), if_neg (by omega), if_pos (by omega)])
  by_cases h17 : c = 308
  case pos =>
    refine wq_top h17 ?_
    refine wq_lsw rfl (by decide) rfl (tgt := 166) rfl ?_
    refine wq_bipush rfl rfl ?_
    refine wq_iret rfl (by decide) rfl ?_
    exact wq_k1 (by unfold lx_left; rw [if_neg (by omega), if_neg (by omega), if_neg (by omega), if_neg (by omega), if_neg (by omega), if_neg (by omega), if_neg (by omega), if_pos (by omega)])
  refine wq_lswD rfl hc rfl (List.forall_mem_cons.mpr ⟨wq_siNe (v := 37) hc (by decide) h1, (List.forall_mem_cons.mpr ⟨wq_siNe (v := 38) hc (by decide) h2, (List.forall_mem_cons.mpr ⟨wq_siNe (v := 42) hc (by decide) h3, (List.forall_mem_cons.mpr ⟨wq_siNe (v := 43) hc (by decide) h4, (List.forall_mem_cons.mpr ⟨wq_siNe (v := 45) hc (by decide) h5, (List.forall_mem_cons.mpr ⟨wq_siNe (v := 60) hc (by decide) h6, (List.forall_mem_cons.mpr ⟨wq_siNe (v := 62) hc (by decide) h7, (List.forall_mem_cons.mpr ⟨wq_siNe (v := 124) hc (by decide) h8, (List.forall_mem_cons.mpr ⟨wq_siNe (v := 126) hc (by decide) h9, (List.forall_mem_cons.mpr ⟨wq_siNe (v := 300) hc (by decide) h10, (List.forall_mem_cons.mpr ⟨wq_siNe (v := 302) hc (by decide) h11, (List.forall_mem_cons.mpr ⟨wq_siNe (v := 303) hc (by decide) h12, (List.forall_mem_cons.mpr ⟨wq_siNe (v := 304) hc (by decide) h13, (List.forall_mem_cons.mpr ⟨wq_siNe (v := 305) hc (by decide) h14, (List.forall_mem_cons.mpr ⟨wq_siNe (v := 306) hc (by decide) h15, (List.forall_mem_cons.mpr ⟨wq_siNe (v := 307) hc (by decide) h16, (List.forall_mem_cons.mpr ⟨wq_siNe (v := 308) hc (by decide) h17, (fun _ h => absurd h List.not_mem_nil)⟩)⟩)⟩)⟩)⟩)⟩)⟩)⟩)⟩)⟩)⟩)⟩)⟩)⟩)⟩)⟩)⟩) rfl (tgt := 169) rfl ?_
  refine wq_iconst rfl rfl ?_
  refine wq_iret rfl (by decide) rfl ?_
  exact wq_k1 (by unfold lx_left; rw [if_neg (by omega), if_neg (by omega), if_neg (by omega), if_neg (by omega), if_neg (by omega), if_neg (by omega), if_neg (by omega), if_neg (by omega)])
theorem wm_eventOf {F : wq_F} {d c : Nat} (hc : c < 4294967296) : mq (d + 1) 240 [c] wm_sh F (wq_k (some (lx_event c)) wm_sh F) := by
  have e : ev_ent [c] = [c] := by
    rw [wm_entI hc]
    rfl
  refine mq_of (maxL := 1) (rt := (some .int)) (code := (ev_un al_mX12_eventOf.2.2.2.2)) (L := [c]) rfl (by rw [e]; exact Nat.le_of_ble_eq_true rfl) (by rw [e]; rfl) ?_
  refine wq_iload_n rfl rfl hc ?_
  by_cases h1 : c = 37
  case pos =>
    refine wq_top h1 ?_
    refine wq_lsw rfl (by decide) rfl (tgt := 93) rfl ?_
    refine wq_bipush rfl rfl ?_
    refine wq_iret rfl (by decide) rfl ?_
    exact wq_k1 (by unfold lx_event; rw [if_neg (by omega), if_neg (by omega), if_neg (by omega), if_neg (by omega), if_pos (by omega)])
  by_cases h2 : c = 38
  case pos =>
    refine wq_top h2 ?_
    refine wq_lsw rfl (by decide) rfl (tgt := 96) rfl ?_
    refine wq_bipush rfl rfl ?_
    refine wq_iret rfl (by decide) rfl ?_
    exact wq_k1 (by unfold lx_event; rw [if_neg (by omega), if_neg (by omega), if_neg (by omega), if_neg (by omega), if_neg (by omega), if_pos (by omega)])
  by_cases h3 : c = 42
  case pos =>
    refine wq_top h3 ?_
    refine wq_lsw rfl (by decide) rfl (tgt := 88) rfl ?_
    refine wq_iconst rfl rfl ?_
    refine wq_iret rfl (by decide) rfl ?_
    exact wq_k1 (by unfold lx_event; rw [if_neg (by omega), if_neg (by omega), if_pos (by omega)])
  by_cases h4 : c = 43
  case pos =>
    refine wq_top h4 ?_
    refine wq_lsw rfl (by decide) rfl (tgt := 84) rfl ?_
    refine wq_iconst rfl rfl ?_
    refine wq_iret rfl (by decide) rfl ?_
    exact wq_k1 (by unfold lx_event; rw [if_pos (by omega)])
  by_cases h5 : c = 45
  case pos =>
    refine wq_top h5 ?_
    refine wq_lsw rfl (by decide) rfl (tgt := 86) rfl ?_
    refine wq_iconst rfl rfl ?_
    refine wq_iret rfl (by decide) rfl ?_
    exact wq_k1 (by unfold lx_event; rw [if_neg (by omega), if_pos (by omega)])
  by_cases h6 : c = 124
  case pos =>
    refine wq_top h6 ?_
    refine wq_lsw rfl (by decide) rfl (tgt := 99) rfl ?_
    refine wq_bipush rfl rfl ?_
    refine wq_iret rfl (by decide) rfl ?_
    exact wq_k1 (by unfold lx_event; rw [if_neg (by omega), if_neg (by omega), if_neg (by omega), if_neg (by omega), if_neg (by omega), if_neg (by omega), if_pos (by omega)])
  by_cases h7 : c = 126
  case pos =>
    refine wq_top h7 ?_
    refine wq_lsw rfl (by decide) rfl (tgt := 102) rfl ?_
    refine wq_bipush rfl rfl ?_
    refine wq_iret rfl (by decide) rfl ?_
    exact wq_k1 (by unfold lx_event; rw [if_neg (by omega), if_neg (by omega), if_neg (by omega), if_neg (by omega), if_neg (by omega), if_neg (by omega), if_neg (by omega), if_pos (by omega)])
  by_cases h8 : c = 306
  case pos =>
    refine wq_top h8 ?_
    refine wq_lsw rfl (by decide) rfl (tgt := 105) rfl ?_
    refine wq_bipush rfl rfl ?_
    refine wq_iret rfl (by decide) rfl ?_
    exact wq_k1 (by unfold lx_event; rw [if_neg (by omega), if_neg (by omega), if_neg (by omega), if_neg (by omega), if_neg (by omega), if_neg (by omega), if_neg (by omega), if_neg (by omega), if_pos (by omega)])
  by_cases h9 : c = 308
  case pos =>
    refine wq_top h9 ?_
    refine wq_lsw rfl (by decide) rfl (tgt := 90) rfl ?_
    refine wq_bipush rfl rfl ?_
    refine wq_iret rfl (by decide) rfl ?_
    exact wq_k1 (by unfold lx_event; rw [if_neg (by omega), if_neg (by omega), if_neg (by omega), if_pos (by omega)])
  refine wq_lswD rfl hc rfl (List.forall_mem_cons.mpr ⟨wq_siNe (v := 37) hc (by decide) h1, (List.forall_mem_cons.mpr ⟨wq_siNe (v := 38) hc (by decide) h2, (List.forall_mem_cons.mpr ⟨wq_siNe (v := 42) hc (by decide) h3, (List.forall_mem_cons.mpr ⟨wq_siNe (v := 43) hc (by decide) h4, (List.forall_mem_cons.mpr ⟨wq_siNe (v := 45) hc (by decide) h5, (List.forall_mem_cons.mpr ⟨wq_siNe (v := 124) hc (by decide) h6, (List.forall_mem_cons.mpr ⟨wq_siNe (v := 126) hc (by decide) h7, (List.forall_mem_cons.mpr ⟨wq_siNe (v := 306) hc (by decide) h8, (List.forall_mem_cons.mpr ⟨wq_siNe (v := 308) hc (by decide) h9, (fun _ h => absurd h List.not_mem_nil)⟩)⟩)⟩)⟩)⟩)⟩)⟩)⟩)⟩) rfl (tgt := 108) rfl ?_
  refine wq_bipush rfl rfl ?_
  refine wq_iret rfl (by decide) rfl ?_
  exact wq_k1 (by unfold lx_event; rw [if_neg (by omega), if_neg (by omega), if_neg (by omega), if_neg (by omega), if_neg (by omega), if_neg (by omega), if_neg (by omega), if_neg (by omega), if_neg (by omega)])
theorem wm_strength {F : wq_F} (hT : wm_T F) (hti : F 0 25 < 1502) {d : Nat} : mq (d + 2) 235 [36893488147419103232] wm_sh F (wq_k (some (wv_strength F)) wm_sh F) := by
  have e : ev_ent [36893488147419103232] = [36893488147419103232] := by
    rfl
  refine mq_of (maxL := 1) (rt := (some .int)) (code := (ev_un al_mX12_strength.2.2.2.2)) (L := [36893488147419103232]) rfl (by rw [e]; exact Nat.le_of_ble_eq_true rfl) (by rw [e]; rfl) ?_
  refine wq_aload_n rfl rfl rfl ?_
  refine wq_bipush rfl rfl ?_
  refine wm_virtI (x := wv_tok F 4 15) (as := [36893488147419103232, 15]) rfl rfl (by decide) (Nat.le_of_ble_eq_true rfl) rfl (Nat.le_of_ble_eq_true rfl) rfl (wm_isWord hT hti (by decide)) ?_
  refine wq_if_eq rfl rfl (wm_zlt (wv_tok2 F 4 15)) (fun h1 => ?_) (fun h1 => ?_)
  · skip
    refine wq_aload_n rfl rfl rfl ?_
    refine wq_iconst rfl rfl ?_
    refine wm_virtI (x := wv_tok F 4 1) (as := [36893488147419103232, 1]) rfl rfl (by decide) (Nat.le_of_ble_eq_true rfl) rfl (Nat.le_of_ble_eq_true rfl) rfl (wm_isWord hT hti (by decide)) ?_
    refine wq_if_eq rfl rfl (wm_zlt (wv_tok2 F 4 1)) (fun h2 => ?_) (fun h2 => ?_)
    · skip
      refine wq_aload_n rfl rfl rfl ?_
      refine wm_getR (v := 36893488147419103241) rfl (by decide) (hT.r 21 8 rfl) ?_
      refine wq_aload_n rfl rfl rfl ?_
      refine wm_getI rfl (by decide) ?_
      refine wq_iaload (q := 9) (n := 1502) rfl rfl (by decide) (by omega) (by decide) ?_
      refine wq_iconst rfl rfl ?_
      refine wq_ic_ne rfl rfl (hT.ai (k := 9) rfl (by omega)) (by decide) (fun h3 => ?_) (fun h3 => ?_)
      · skip
        refine wq_iconst rfl rfl ?_
        refine wq_iret rfl (by decide) rfl ?_
        unfold wv_strength wf_kind
        rw [if_neg (by omega), if_neg (by omega), if_neg (by omega)]
        exact wq_k0
      · skip
        refine wq_aload_n rfl rfl rfl ?_
        refine wm_getR (v := 36893488147419103243) rfl (by decide) (hT.r 23 10 rfl) ?_
        refine wq_aload_n rfl rfl rfl ?_
        refine wm_getI rfl (by decide) ?_
        refine wq_laload (q := 11) (n := 1502) rfl rfl (by decide) (by omega) (by decide) ?_
        refine wq_l2i rfl (wm_al_L (hT.al (k := 11) rfl (by omega))) ?_
        refine wm_statI (as := [ev_oL2i (18446744073709551616 + F 11 (F 0 25))]) rfl (by decide) (Nat.le_of_ble_eq_true rfl) rfl (Nat.le_of_ble_eq_true rfl) rfl (wm_leftOf (Nat.mod_lt _ (by decide))) ?_
        refine wq_goto rfl rfl ?_
        refine wq_iret rfl (lx_left_lt _) rfl ?_
        unfold wv_strength wf_kind
        rw [if_neg (by omega), if_neg (by omega), if_pos (by omega)]
        exact wq_k0
    · skip
      refine wq_iconst rfl rfl ?_
      refine wq_iret rfl (by decide) rfl ?_
      unfold wv_strength wf_kind
      rw [if_neg (by omega), if_pos (by omega)]
      exact wq_k0
  · skip
    refine wq_iconst rfl rfl ?_
    refine wq_iret rfl (by decide) rfl ?_
    unfold wv_strength wf_kind
    rw [if_pos (by omega)]
    exact wq_k0
theorem wm_beginsGiven {F : wq_F} (hT : wm_T F) (hti : F 0 25 < 1502) {d : Nat} : mq (d + 2) 244 [36893488147419103232] wm_sh F (wq_k (some (wv_given F)) wm_sh F) := by
  have e : ev_ent [36893488147419103232] = [36893488147419103232] := by
    rfl
  refine mq_of (maxL := 1) (rt := (some .boolean)) (code := (ev_un al_mX12_beginsGiven.2.2.2.2)) (L := [36893488147419103232]) rfl (by rw [e]; exact Nat.le_of_ble_eq_true rfl) (by rw [e]; rfl) ?_
  refine wq_aload_n rfl rfl rfl ?_
  refine wq_bipush rfl rfl ?_
  refine wm_virtI (x := wv_tok F 5 40) (as := [36893488147419103232, 40]) rfl rfl (by decide) (Nat.le_of_ble_eq_true rfl) rfl (Nat.le_of_ble_eq_true rfl) rfl (wm_isSign hT hti (by decide)) ?_
  refine wq_if_ne rfl rfl (wm_zlt (wv_tok2 F 5 40)) (fun h1 => ?_) (fun h1 => ?_)
  · skip
    refine wq_iconst rfl rfl ?_
    refine wq_goto rfl rfl ?_
    refine wq_iret rfl (by decide) rfl ?_
    unfold wv_given wf_kind
    first | exact wq_k0 | (rw [if_pos (by omega)]; exact wq_k0) | (rw [if_neg (by omega)]; exact wq_k0)
  · skip
    refine wq_aload_n rfl rfl rfl ?_
    refine wq_bipush rfl rfl ?_
    refine wm_virtI (x := wv_tok F 5 123) (as := [36893488147419103232, 123]) rfl rfl (by decide) (Nat.le_of_ble_eq_true rfl) rfl (Nat.le_of_ble_eq_true rfl) rfl (wm_isSign hT hti (by decide)) ?_
    refine wq_if_ne rfl rfl (wm_zlt (wv_tok2 F 5 123)) (fun h2 => ?_) (fun h2 => ?_)
    · skip
      refine wq_iconst rfl rfl ?_
      refine wq_goto rfl rfl ?_
      refine wq_iret rfl (by decide) rfl ?_
      unfold wv_given wf_kind
      first | exact wq_k0 | (rw [if_pos (by omega)]; exact wq_k0) | (rw [if_neg (by omega)]; exact wq_k0)
    · skip
      refine wq_aload_n rfl rfl rfl ?_
      refine wm_getR (v := 36893488147419103241) rfl (by decide) (hT.r 21 8 rfl) ?_
      refine wq_aload_n rfl rfl rfl ?_
      refine wm_getI rfl (by decide) ?_
      refine wq_iaload (q := 9) (n := 1502) rfl rfl (by decide) (by omega) (by decide) ?_
      refine wq_iconst rfl rfl ?_
      refine wq_ic_ne rfl rfl (hT.ai (k := 9) rfl (by omega)) (by decide) (fun h3 => ?_) (fun h3 => ?_)
      · skip
        refine wq_iconst rfl rfl ?_
        refine wq_iret rfl (by decide) rfl ?_
        unfold wv_given wf_kind
        first | exact wq_k0 | (rw [if_pos (by omega)]; exact wq_k0) | (rw [if_neg (by omega)]; exact wq_k0)
      · skip
        refine wq_iconst rfl rfl ?_
        refine wq_goto rfl rfl ?_
        refine wq_iret rfl (by decide) rfl ?_
        unfold wv_given wf_kind
        first | exact wq_k0 | (rw [if_pos (by omega)]; exact wq_k0) | (rw [if_neg (by omega)]; exact wq_k0)
theorem wm_isParting {F : wq_F} (hT : wm_T F) (hti : F 0 25 < 1502) {d : Nat} : mq (d + 2) 250 [36893488147419103232] wm_sh F (wq_k (some (wv_parting F)) wm_sh F) := by
  have e : ev_ent [36893488147419103232] = [36893488147419103232] := by
    rfl
  refine mq_of (maxL := 1) (rt := (some .boolean)) (code := (ev_un al_mX12_isParting.2.2.2.2)) (L := [36893488147419103232]) rfl (by rw [e]; exact Nat.le_of_ble_eq_true rfl) (by rw [e]; rfl) ?_
  refine wq_aload_n rfl rfl rfl ?_
  refine wq_bipush rfl rfl ?_
  refine wm_virtI (x := wv_tok F 5 44) (as := [36893488147419103232, 44]) rfl rfl (by decide) (Nat.le_of_ble_eq_true rfl) rfl (Nat.le_of_ble_eq_true rfl) rfl (wm_isSign hT hti (by decide)) ?_
  refine wq_if_ne rfl rfl (wm_zlt (wv_tok2 F 5 44)) (fun h1 => ?_) (fun h1 => ?_)
  · skip
    refine wq_iconst rfl rfl ?_
    refine wq_goto rfl rfl ?_
    refine wq_iret rfl (by decide) rfl ?_
    unfold wv_parting
    first | exact wq_k0 | (rw [if_pos (by omega)]; exact wq_k0) | (rw [if_neg (by omega)]; exact wq_k0)
  · skip
    refine wq_aload_n rfl rfl rfl ?_
    refine wq_bipush rfl rfl ?_
    refine wm_virtI (x := wv_tok F 5 59) (as := [36893488147419103232, 59]) rfl rfl (by decide) (Nat.le_of_ble_eq_true rfl) rfl (Nat.le_of_ble_eq_true rfl) rfl (wm_isSign hT hti (by decide)) ?_
    refine wq_if_eq rfl rfl (wm_zlt (wv_tok2 F 5 59)) (fun h2 => ?_) (fun h2 => ?_)
    · skip
      refine wq_iconst rfl rfl ?_
      refine wq_iret rfl (by decide) rfl ?_
      unfold wv_parting
      first | exact wq_k0 | (rw [if_pos (by omega)]; exact wq_k0) | (rw [if_neg (by omega)]; exact wq_k0)
    · skip
      refine wq_iconst rfl rfl ?_
      refine wq_goto rfl rfl ?_
      refine wq_iret rfl (by decide) rfl ?_
      unfold wv_parting
      first | exact wq_k0 | (rw [if_pos (by omega)]; exact wq_k0) | (rw [if_neg (by omega)]; exact wq_k0)
theorem wm_proto {F : wq_F} (hT : wm_T F) (hlv : F 0 53 < 52) {d : Nat} : mq (d + 1) 218 [36893488147419103232] wm_sh F (wq_k (some (F 32 (F 0 53))) wm_sh F) := by
  have e : ev_ent [36893488147419103232] = [36893488147419103232] := by
    rfl
  refine mq_of (maxL := 1) (rt := (some .int)) (code := (ev_un al_mX12_proto.2.2.2.2)) (L := [36893488147419103232]) rfl (by rw [e]; exact Nat.le_of_ble_eq_true rfl) (by rw [e]; rfl) ?_
  refine wq_aload_n rfl rfl rfl ?_
  refine wm_getR (v := 36893488147419103264) rfl (by decide) (hT.r 52 31 rfl) ?_
  refine wq_aload_n rfl rfl rfl ?_
  refine wm_getI rfl (by decide) ?_
  refine wq_iaload (q := 32) (n := 52) rfl rfl (by decide) (by omega) (by decide) ?_
  refine wq_iret rfl (hT.ai (k := 32) rfl (by omega)) rfl ?_
  exact wq_k0
theorem wm_know {F : wq_F} (hT : wm_T F) (hk : F 0 50 < 1600) {d x s : Nat} (hx : x < 4294967296) (hs : s < 4294967296) : mq (d + 1) 220 [36893488147419103232, x, s] wm_sh F (wq_k none wm_sh (wf_know F x s)) := by
  have e : ev_ent [36893488147419103232, x, s] = [36893488147419103232, x, s] := by
    show 36893488147419103232 :: ev_ent [x, s] = _
    rw [wm_entI hx, wm_entI hs]
    rfl
  refine mq_of (maxL := 3) (rt := none) (code := (ev_un al_mX12_know.2.2.2.2)) (L := [36893488147419103232, x, s]) rfl (by rw [e]; exact Nat.le_of_ble_eq_true rfl) (by rw [e]; rfl) ?_
  refine wq_aload_n rfl rfl rfl ?_
  refine wm_getR (v := 36893488147419103261) rfl (by decide) (hT.r 48 28 rfl) ?_
  refine wq_aload_n rfl rfl rfl ?_
  refine wm_getI rfl (by decide) ?_
  refine wq_iload_n rfl rfl hx ?_
  refine wq_iastore (q := 29) (n := 1600) rfl rfl (by decide) (by omega) (by decide) hx ?_
  have hT1 := hT.ua (k := 29) (kd := 1000) (n := 1600) (i := F 0 50) (v := x) rfl (by decide) (by omega) (show x < 4294967296 from hx)
  refine wq_aload_n rfl rfl rfl ?_
  refine wm_getR (v := 36893488147419103262) rfl (by decide) (hT1.r 49 29 rfl) ?_
  refine wq_aload_n rfl rfl rfl ?_
  refine wm_getR (v := F 0 50) rfl (by decide) (wq_up_cell (by decide)) ?_
  refine wq_iload_n rfl rfl hs ?_
  refine wq_iastore (q := 30) (n := 1600) rfl rfl (by decide) (by omega) (by decide) hs ?_
  have hT2 := hT1.ua (k := 30) (kd := 1000) (n := 1600) (i := F 0 50) (v := s) rfl (by decide) (by omega) (show s < 4294967296 from hs)
  refine wq_aload_n rfl rfl rfl ?_
  refine wq_dup rfl rfl ?_
  refine wm_getR (v := F 0 50) rfl (by decide) ((wq_up_cell (by decide)).trans (wq_up_cell (by decide))) ?_
  refine wq_iconst rfl rfl ?_
  refine wq_iaddZ rfl (wm_cast ((wq_up_cell (by decide)).trans (wq_up_cell (by decide))) (hT2.i 50 rfl)) (by decide) (z := F 0 50 + 1) (by omega) ?_
  refine wm_put rfl (by decide) (wq_I (by omega)) ?_
  have hT3 := hT2.uf (f := 50) (c := 0) (v := F 0 50 + 1) rfl (show F 0 50 + 1 < 4294967296 from (by omega))
  refine wq_ret rfl ?_
  unfold wf_know
  exact wq_k0
theorem wm_openLoop {F : wq_F} (hT : wm_T F) (hl : F 0 56 < 64) (hlv : F 0 53 < 52) {d : Nat} : mq (d + 1) 227 [36893488147419103232] wm_sh F (wq_k none wm_sh (wf_openLoop F)) := by
  have e : ev_ent [36893488147419103232] = [36893488147419103232] := by
    rfl
  refine mq_of (maxL := 1) (rt := none) (code := (ev_un al_mX12_openLoop.2.2.2.2)) (L := [36893488147419103232]) rfl (by rw [e]; exact Nat.le_of_ble_eq_true rfl) (by rw [e]; rfl) ?_
  refine wq_aload_n rfl rfl rfl ?_
  refine wm_getR (v := 36893488147419103265) rfl (by decide) (hT.r 54 32 rfl) ?_
  refine wq_aload_n rfl rfl rfl ?_
  refine wm_getI rfl (by decide) ?_
  refine wq_iconst rfl rfl ?_
  refine wq_iastore (q := 33) (n := 64) rfl rfl (by decide) (by omega) (by decide) (by decide) ?_
  have hT1 := hT.ua (k := 33) (kd := 1000) (n := 64) (i := F 0 56) (v := 4294967295) rfl (by decide) (by omega) (show 4294967295 < 4294967296 from (by decide))
  refine wq_aload_n rfl rfl rfl ?_
  refine wm_getR (v := 36893488147419103266) rfl (by decide) (hT1.r 55 33 rfl) ?_
  refine wq_aload_n rfl rfl rfl ?_
  refine wm_getR (v := F 0 56) rfl (by decide) (wq_up_cell (by decide)) ?_
  refine wq_aload_n rfl rfl rfl ?_
  refine wm_getR (v := F 0 53) rfl (by decide) (wq_up_cell (by decide)) ?_
  refine wq_iastore (q := 34) (n := 64) rfl rfl (by decide) (by omega) (by decide) (wm_cast (wq_up_cell (by decide)) (hT1.i 53 rfl)) ?_
  have hT2 := hT1.ua (k := 34) (kd := 1000) (n := 64) (i := F 0 56) (v := F 0 53) rfl (by decide) (by omega) (show F 0 53 < 4294967296 from (wm_cast (wq_up_cell (by decide)) (hT1.i 53 rfl)))
  refine wq_aload_n rfl rfl rfl ?_
  refine wq_dup rfl rfl ?_
  refine wm_getR (v := F 0 56) rfl (by decide) ((wq_up_cell (by decide)).trans (wq_up_cell (by decide))) ?_
  refine wq_iconst rfl rfl ?_
  refine wq_iaddZ rfl (wm_cast ((wq_up_cell (by decide)).trans (wq_up_cell (by decide))) (hT2.i 56 rfl)) (by decide) (z := F 0 56 + 1) (by omega) ?_
  refine wm_put rfl (by decide) (wq_I (by omega)) ?_
  have hT3 := hT2.uf (f := 56) (c := 0) (v := F 0 56 + 1) rfl (show F 0 56 + 1 < 4294967296 from (by omega))
  refine wq_ret rfl ?_
  unfold wf_openLoop
  exact wq_k0
