/-! ===== 99i: the reference goes on: its waits taken one by one (by wip/whole2/law99i.py) ===== -/
/-- readText, its loop with a fuel of its own -/
def dk_29x (n g : Nat) (F : wq_F) : Option (Nat × wq_F) :=
  od_up F 0 25 0 fun F1 =>
  od_up F1 0 46 0 fun F4 =>
  od_up F4 0 47 0 fun F7 =>
  od_up F7 0 50 0 fun F10 =>
  od_up F10 0 53 0 fun F13 =>
  od_g (0 < 52) <|
  od_up F13 31 0 0 fun F17 =>
  od_g (0 < 52) <|
  od_up F17 32 0 0 fun F21 =>
  od_up F21 0 56 0 fun F24 =>
  od_up F24 0 60 0 fun F27 =>
  od_up F27 0 41 0 fun F30 =>
  od_up F30 0 40 0 fun F33 =>
  od_up F33 0 34 1 fun F36 =>
  od_g (0 < 51) <|
  od_up F36 14 0 0 fun F40 =>
  od_g (0 < 51) <|
  od_up F40 15 0 0 fun F44 =>
  od_g (0 < 51) <|
  od_up F44 13 0 0 fun F48 =>
  od_g (0 < 51) <|
  od_up F48 16 0 1 fun F52 =>
  od_g (0 < 51) <|
  od_up F52 17 0 0 fun F56 =>
  od_g (0 < 51) <|
  od_up F56 12 0 0 fun F60 =>
  (dk_30 F60 0 0 0 0).bind fun y63 =>
  (dk_31 y63.2 42 0 0 0).bind fun y67 =>
  (dk_31 y67.2 0 0 0 0).bind fun y71 =>
  dk_29_134 n g y71.2 1
theorem dkT_29x {d n g : Nat} {F : wq_F} (hT : wm_T F) {x : Nat × wq_F} (h : dk_29x n g F = some x) : mq (d + 7 + 1) 29 [36893488147419103232] wm_sh F (wkZ wm_T wm_sh x) := by
  have e : ev_ent [36893488147419103232] = [36893488147419103232] := by
    rfl
  refine mq_of (maxL := 3) (rt := (some .boolean)) (code := (ev_un al_mX12_readText.2.2.2.2)) (L := [36893488147419103232, 73786976294838206464, 73786976294838206464]) rfl (by rw [e]; exact Nat.le_of_ble_eq_true rfl) (by rw [e]; rfl) ?_
  unfold dk_29x at h
  refine wq_aload_n rfl rfl rfl ?_
  refine wq_iconst rfl rfl ?_
  obtain ⟨F1, e2, h⟩ := od_upE h
  refine wmE_put rfl (by decide) (wq_I (wm_zlt (by decide))) e2 ?_
  have T3 : wm_T F1 := wd_T e2 (hT.uf (f := 25) (c := 0) (v := 0) rfl (show 0 < 4294967296 from (wm_zlt (by decide))))
  refine wq_aload_n rfl rfl rfl ?_
  refine wq_iconst rfl rfl ?_
  obtain ⟨F4, e5, h⟩ := od_upE h
  refine wmE_put rfl (by decide) (wq_I (wm_zlt (by decide))) e5 ?_
  have T6 : wm_T F4 := wd_T e5 (T3.uf (f := 46) (c := 0) (v := 0) rfl (show 0 < 4294967296 from (wm_zlt (by decide))))
  refine wq_aload_n rfl rfl rfl ?_
  refine wq_iconst rfl rfl ?_
  obtain ⟨F7, e8, h⟩ := od_upE h
  refine wmE_put rfl (by decide) (wq_I (wm_zlt (by decide))) e8 ?_
  have T9 : wm_T F7 := wd_T e8 (T6.uf (f := 47) (c := 0) (v := 0) rfl (show 0 < 4294967296 from (wm_zlt (by decide))))
  refine wq_aload_n rfl rfl rfl ?_
  refine wq_iconst rfl rfl ?_
  obtain ⟨F10, e11, h⟩ := od_upE h
  refine wmE_put rfl (by decide) (wq_I (wm_zlt (by decide))) e11 ?_
  have T12 : wm_T F10 := wd_T e11 (T9.uf (f := 50) (c := 0) (v := 0) rfl (show 0 < 4294967296 from (wm_zlt (by decide))))
  refine wq_aload_n rfl rfl rfl ?_
  refine wq_iconst rfl rfl ?_
  obtain ⟨F13, e14, h⟩ := od_upE h
  refine wmE_put rfl (by decide) (wq_I (wm_zlt (by decide))) e14 ?_
  have T15 : wm_T F13 := wd_T e14 (T12.uf (f := 53) (c := 0) (v := 0) rfl (show 0 < 4294967296 from (wm_zlt (by decide))))
  refine wq_aload_n rfl rfl rfl ?_
  refine wm_getR (v := 36893488147419103263) rfl (by decide) (T15.r 51 30 rfl) ?_
  refine wq_iconst rfl rfl ?_
  refine wq_iconst rfl rfl ?_
  obtain ⟨g16, h⟩ := od_gE h
  obtain ⟨F17, e18, h⟩ := od_upE h
  refine wd_iastore (q := 31) (n := 52) rfl rfl (by decide) g16 (by decide) (wm_zlt (by decide)) e18 ?_
  have T19 : wm_T F17 := wd_T e18 (T15.ua (k := 31) (kd := 1000) (n := 52) (i := 0) (v := 0) rfl (by decide) g16 (show 0 < 4294967296 from (wm_zlt (by decide))))
  refine wq_aload_n rfl rfl rfl ?_
  refine wm_getR (v := 36893488147419103264) rfl (by decide) (T19.r 52 31 rfl) ?_
  refine wq_iconst rfl rfl ?_
  refine wq_iconst rfl rfl ?_
  obtain ⟨g20, h⟩ := od_gE h
  obtain ⟨F21, e22, h⟩ := od_upE h
  refine wd_iastore (q := 32) (n := 52) rfl rfl (by decide) g20 (by decide) (wm_zlt (by decide)) e22 ?_
  have T23 : wm_T F21 := wd_T e22 (T19.ua (k := 32) (kd := 1000) (n := 52) (i := 0) (v := 0) rfl (by decide) g20 (show 0 < 4294967296 from (wm_zlt (by decide))))
  refine wq_aload_n rfl rfl rfl ?_
  refine wq_iconst rfl rfl ?_
  obtain ⟨F24, e25, h⟩ := od_upE h
  refine wmE_put rfl (by decide) (wq_I (wm_zlt (by decide))) e25 ?_
  have T26 : wm_T F24 := wd_T e25 (T23.uf (f := 56) (c := 0) (v := 0) rfl (show 0 < 4294967296 from (wm_zlt (by decide))))
  refine wq_aload_n rfl rfl rfl ?_
  refine wq_iconst rfl rfl ?_
  obtain ⟨F27, e28, h⟩ := od_upE h
  refine wmE_put rfl (by decide) (wq_I (wm_zlt (by decide))) e28 ?_
  have T29 : wm_T F27 := wd_T e28 (T26.uf (f := 60) (c := 0) (v := 0) rfl (show 0 < 4294967296 from (wm_zlt (by decide))))
  refine wq_aload_n rfl rfl rfl ?_
  refine wq_iconst rfl rfl ?_
  obtain ⟨F30, e31, h⟩ := od_upE h
  refine wmE_put rfl (by decide) (wq_I (wm_zlt (by decide))) e31 ?_
  have T32 : wm_T F30 := wd_T e31 (T29.uf (f := 41) (c := 0) (v := 0) rfl (show 0 < 4294967296 from (wm_zlt (by decide))))
  refine wq_aload_n rfl rfl rfl ?_
  refine wq_iconst rfl rfl ?_
  obtain ⟨F33, e34, h⟩ := od_upE h
  refine wmE_put rfl (by decide) (wq_I (wm_zlt (by decide))) e34 ?_
  have T35 : wm_T F33 := wd_T e34 (T32.uf (f := 40) (c := 0) (v := 0) rfl (show 0 < 4294967296 from (wm_zlt (by decide))))
  refine wq_aload_n rfl rfl rfl ?_
  refine wq_iconst rfl rfl ?_
  obtain ⟨F36, e37, h⟩ := od_upE h
  refine wmE_put rfl (by decide) (wq_I (wm_zlt (by decide))) e37 ?_
  have T38 : wm_T F36 := wd_T e37 (T35.uf (f := 34) (c := 0) (v := 1) rfl (show 1 < 4294967296 from (wm_zlt (by decide))))
  refine wq_aload_n rfl rfl rfl ?_
  refine wm_getR (v := 36893488147419103246) rfl (by decide) (T38.r 28 13 rfl) ?_
  refine wq_iconst rfl rfl ?_
  refine wq_iconst rfl rfl ?_
  obtain ⟨g39, h⟩ := od_gE h
  obtain ⟨F40, e41, h⟩ := od_upE h
  refine wd_iastore (q := 14) (n := 51) rfl rfl (by decide) g39 (by decide) (wm_zlt (by decide)) e41 ?_
  have T42 : wm_T F40 := wd_T e41 (T38.ua (k := 14) (kd := 1000) (n := 51) (i := 0) (v := 0) rfl (by decide) g39 (show 0 < 4294967296 from (wm_zlt (by decide))))
  refine wq_aload_n rfl rfl rfl ?_
  refine wm_getR (v := 36893488147419103247) rfl (by decide) (T42.r 29 14 rfl) ?_
  refine wq_iconst rfl rfl ?_
  refine wq_iconst rfl rfl ?_
  obtain ⟨g43, h⟩ := od_gE h
  obtain ⟨F44, e45, h⟩ := od_upE h
  refine wd_iastore (q := 15) (n := 51) rfl rfl (by decide) g43 (by decide) (wm_zlt (by decide)) e45 ?_
  have T46 : wm_T F44 := wd_T e45 (T42.ua (k := 15) (kd := 1000) (n := 51) (i := 0) (v := 0) rfl (by decide) g43 (show 0 < 4294967296 from (wm_zlt (by decide))))
  refine wq_aload_n rfl rfl rfl ?_
  refine wm_getR (v := 36893488147419103245) rfl (by decide) (T46.r 27 12 rfl) ?_
  refine wq_iconst rfl rfl ?_
  refine wq_iconst rfl rfl ?_
  obtain ⟨g47, h⟩ := od_gE h
  obtain ⟨F48, e49, h⟩ := od_upE h
  refine wd_iastore (q := 13) (n := 51) rfl rfl (by decide) g47 (by decide) (wm_zlt (by decide)) e49 ?_
  have T50 : wm_T F48 := wd_T e49 (T46.ua (k := 13) (kd := 1000) (n := 51) (i := 0) (v := 0) rfl (by decide) g47 (show 0 < 4294967296 from (wm_zlt (by decide))))
  refine wq_aload_n rfl rfl rfl ?_
  refine wm_getR (v := 36893488147419103248) rfl (by decide) (T50.r 30 15 rfl) ?_
  refine wq_iconst rfl rfl ?_
  refine wq_iconst rfl rfl ?_
  obtain ⟨g51, h⟩ := od_gE h
  obtain ⟨F52, e53, h⟩ := od_upE h
  refine wd_zastore (q := 16) (n := 51) rfl rfl (by decide) g51 (by decide) (by decide) e53 ?_
  have T54 : wm_T F52 := wd_T e53 (T50.ua (k := 16) (kd := 1002) (n := 51) (i := 0) (v := 1) rfl (by decide) g51 (show 1 < 2 from (by decide)))
  refine wq_aload_n rfl rfl rfl ?_
  refine wm_getR (v := 36893488147419103249) rfl (by decide) (T54.r 31 16 rfl) ?_
  refine wq_iconst rfl rfl ?_
  refine wq_iconst rfl rfl ?_
  obtain ⟨g55, h⟩ := od_gE h
  obtain ⟨F56, e57, h⟩ := od_upE h
  refine wd_iastore (q := 17) (n := 51) rfl rfl (by decide) g55 (by decide) (wm_zlt (by decide)) e57 ?_
  have T58 : wm_T F56 := wd_T e57 (T54.ua (k := 17) (kd := 1000) (n := 51) (i := 0) (v := 0) rfl (by decide) g55 (show 0 < 4294967296 from (wm_zlt (by decide))))
  refine wq_aload_n rfl rfl rfl ?_
  refine wm_getR (v := 36893488147419103244) rfl (by decide) (T58.r 26 11 rfl) ?_
  refine wq_iconst rfl rfl ?_
  refine wq_iconst rfl rfl ?_
  obtain ⟨g59, h⟩ := od_gE h
  obtain ⟨F60, e61, h⟩ := od_upE h
  refine wd_iastore (q := 12) (n := 51) rfl rfl (by decide) g59 (by decide) (wm_zlt (by decide)) e61 ?_
  have T62 : wm_T F60 := wd_T e61 (T58.ua (k := 12) (kd := 1000) (n := 51) (i := 0) (v := 0) rfl (by decide) g59 (show 0 < 4294967296 from (wm_zlt (by decide))))
  refine wq_aload_n rfl rfl rfl ?_
  refine wq_iconst rfl rfl ?_
  refine wq_iconst rfl rfl ?_
  refine wq_iconst rfl rfl ?_
  refine wq_iconst rfl rfl ?_
  obtain ⟨y63, e64, h⟩ := od_bindE h
  refine wd_virtI (q := 0) (y := y63) (as := [36893488147419103232, 0, 0, 0, 0]) rfl rfl rfl (by decide) (Nat.le_of_ble_eq_true rfl) (Nat.le_of_ble_eq_true rfl) rfl (Nat.le_of_ble_eq_true rfl) rfl (dkT_30 T62 (wm_zlt (by decide)) (wm_zlt (by decide)) (wm_zlt (by decide)) (wm_zlt (by decide)) e64) (fun p65 T66 => ?_)
  refine wq_istore_n rfl p65 (Nat.le_of_ble_eq_true rfl) (Or.inr ⟨_, rfl, rfl⟩) (L' := [36893488147419103232, y63.1, 73786976294838206464]) rfl ?_
  refine wq_aload_n rfl rfl rfl ?_
  refine wq_bipush rfl rfl ?_
  refine wq_iconst rfl rfl ?_
  refine wq_iconst rfl rfl ?_
  refine wq_iconst rfl rfl ?_
  obtain ⟨y67, e68, h⟩ := od_bindE h
  refine wd_virtN (q := 0) (y := y67) (as := [36893488147419103232, 42, 0, 0, 0]) rfl rfl rfl (by decide) (Nat.le_of_ble_eq_true rfl) (Nat.le_of_ble_eq_true rfl) rfl (Nat.le_of_ble_eq_true rfl) rfl (dkT_31 T66 (by decide) (wm_zlt (by decide)) (wm_zlt (by decide)) (wm_zlt (by decide)) e68) (fun T70 => ?_)
  refine wq_aload_n rfl rfl rfl ?_
  refine wq_iconst rfl rfl ?_
  refine wq_iconst rfl rfl ?_
  refine wq_iconst rfl rfl ?_
  refine wq_iconst rfl rfl ?_
  obtain ⟨y71, e72, h⟩ := od_bindE h
  refine wd_virtN (q := 0) (y := y71) (as := [36893488147419103232, 0, 0, 0, 0]) rfl rfl rfl (by decide) (Nat.le_of_ble_eq_true rfl) (Nat.le_of_ble_eq_true rfl) rfl (Nat.le_of_ble_eq_true rfl) rfl (dkT_31 T70 (wm_zlt (by decide)) (wm_zlt (by decide)) (wm_zlt (by decide)) (wm_zlt (by decide)) e72) (fun T74 => ?_)
  refine wq_iconst rfl rfl ?_
  refine wq_istore_n rfl (wm_zlt (by decide)) (Nat.le_of_ble_eq_true rfl) (Or.inr ⟨_, rfl, (wq_notL p65)⟩) (L' := [36893488147419103232, y63.1, 1]) rfl ?_
  exact dk_29_134T g T74 (by decide) (wq_notL p65) h
/-- from F the loop comes to F' -/
def rm_to (nn : Nat) (F F' : wq_F) : Prop := ∃ k, ∀ g, dk_29_134 nn (g + k) F 1 = dk_29_134 nn g F' 1
theorem rm_refl {nn : Nat} (F : wq_F) : rm_to nn F F := ⟨0, fun _ => rfl⟩
theorem rm_trans {nn : Nat} {F G H : wq_F} (h1 : rm_to nn F G) (h2 : rm_to nn G H) : rm_to nn F H := by
  obtain ⟨a, h1⟩ := h1
  obtain ⟨b, h2⟩ := h2
  exact ⟨b + a, fun g => by rw [← Nat.add_assoc, h1, h2]⟩
/-- the last wait taken from the nest -/
theorem rm_turn {nn g m : Nat} {F : wq_F} (hm : F 0 46 = m + 1) (h4 : m < 4000) : dk_29_134 nn (g + 1) F 1 = (dk_32 nn (wq_up F 0 46 m) (F 25 m) (F 26 m) (F 27 m) (F 28 m)).bind fun y => if y.1 = 0 then dk_29_134 nn g y.2 0 else if (y.2 0 4) = 0 then dk_29_134 nn g y.2 1 else dk_29_134 nn g y.2 0 := by
  show dk_29_134b nn (dk_29_134 nn g) F 1 = _
  unfold dk_29_134b
  rw [hm, if_pos (by omega), if_neg (by decide), od_letS, od_upS, show (m + 1 + (4294967296 - 1)) % 4294967296 = m by omega, wq_up_same, od_g1 h4, od_g1 h4, od_g1 h4, od_g1 h4, wq_up_cell (by decide), wq_up_cell (by decide), wq_up_cell (by decide), wq_up_cell (by decide)]
theorem rm_step {nn m r : Nat} {F F' : wq_F} (hm : F 0 46 = m + 1) (h4 : m < 4000) (h : dk_32 nn (wq_up F 0 46 m) (F 25 m) (F 26 m) (F 27 m) (F 28 m) = some (r, F')) (hr : ¬ r = 0) (h0 : F' 0 4 = 0) : rm_to nn F F' := ⟨1, fun g => by
  rw [rm_turn hm h4, h, od_bS]
  dsimp only
  rw [if_neg hr, if_pos h0]⟩
/-- what the loop leaves in the end -/
def rm_z (F : wq_F) : wq_F := pm_em (pm_em F 14 0 0 0) 38 0 0 0
theorem rm_214 {nn v : Nat} {F : wq_F} (h : F 0 41 < 13999) : dk_29_214 nn F v = some (v, rm_z F) := by
  unfold dk_29_214
  rw [dkS_30 (by omega), od_bS]
  dsimp only
  rw [dkS_30 (by rw [pm_em_at.2.2.2.2]; omega), od_bS]
  rfl
theorem rm_over {nn g : Nat} {F : wq_F} (h : F 0 41 < 13999) : dk_29_134 nn (g + 1) F 0 = some (0, rm_z F) := by
  show dk_29_134b nn (dk_29_134 nn g) F 0 = _
  unfold dk_29_134b
  rw [if_pos rfl, rm_214 h]
  by_cases q : 0 < F 0 46 ∧ F 0 46 < 2147483648
  · rw [if_pos q]
  · rw [if_neg q]
theorem rm_done {nn g : Nat} {F : wq_F} (h : F 0 41 < 13999) (hm : F 0 46 = 0) : dk_29_134 nn (g + 1) F 1 = some (1, rm_z F) := by
  show dk_29_134b nn (dk_29_134 nn g) F 1 = _
  unfold dk_29_134b
  rw [if_neg (by omega), rm_214 h]
/-- what the reference may add to its strings while it reads: self -/
def sf_b : List Nat := [115, 101, 108, 102]
def st_sf (ls ms : List (List Nat)) : Prop := st_pre ls ms ∧ ∀ s, ls.length ≤ s → s < ms.length → ms.getD s [] = sf_b
theorem st_sf_refl (ls : List (List Nat)) : st_sf ls ls := ⟨st_pre_refl ls, fun s h1 h2 => absurd h2 (by omega)⟩
theorem st_sf_trans {a b c : List (List Nat)} (h : st_sf a b) (g : st_sf b c) : st_sf a c := ⟨st_pre_trans h.1 g.1, fun s h1 h2 => by
  by_cases q : s < b.length
  · rw [g.1.2 s q]
    exact h.2 s h1 q
  · exact g.2 s (by omega) h2⟩
/-- text and strings stay (but for self) -/
def rm_fr (F H : wq_F) : Prop := (∀ i, H 1 i = F 1 i) ∧ H 0 2 = F 0 2 ∧ ∀ ls, rs_ok F ls → ∃ ms, rs_ok H ms ∧ st_sf ls ms
theorem rm_fr_refl (F : wq_F) : rm_fr F F := ⟨fun _ => rfl, rfl, fun ls h => ⟨ls, h, st_sf_refl ls⟩⟩
theorem rm_fr_trans {F G H : wq_F} (h1 : rm_fr F G) (h2 : rm_fr G H) : rm_fr F H := ⟨fun i => (h2.1 i).trans (h1.1 i), h2.2.1.trans h1.2.1, fun ls h => by
  obtain ⟨a, a1, a2⟩ := h1.2.2 ls h
  obtain ⟨b, b1, b2⟩ := h2.2.2 a a1
  exact ⟨b, b1, st_sf_trans a2 b2⟩⟩
theorem rm_fr_x {F G H : wq_F} (h : rm_fr F G) (hc : ∀ c j, 1 ≤ c → c ≤ 7 → c ≠ 5 → H c j = G c j) (h0 : H 0 2 = G 0 2 ∧ H 0 8 = G 0 8 ∧ H 0 14 = G 0 14) : rm_fr F H := ⟨fun i => (hc 1 i (by decide) (by decide) (by decide)).trans (h.1 i), h0.1.trans h.2.1, fun ls hl => by
  obtain ⟨a, a1, a2⟩ := h.2.2 ls hl
  exact ⟨a, rs_ok_up a1 ⟨h0.2.2, h0.2.1⟩ (fun c z => funext fun j => hc c j (by omega) (by omega) (by omega)), a2⟩⟩
theorem rm_fr_up {F G : wq_F} {c i v : Nat} (h : rm_fr F G) (hc : c = 0 ∨ c = 5 ∨ 7 < c) (hi : c = 0 → i ≠ 2 ∧ i ≠ 8 ∧ i ≠ 14) : rm_fr F (wq_up G c i v) := rm_fr_x h (fun d j a b e => wq_up_cell (by omega)) ⟨wq_up_ne (fun z => (hi z.1.symm).1 z.2.symm), wq_up_ne (fun z => (hi z.1.symm).2.1 z.2.symm), wq_up_ne (fun z => (hi z.1.symm).2.2 z.2.symm)⟩
theorem rm_fr_em {F G : wq_F} {op a b ln : Nat} (h : rm_fr F G) : rm_fr F (pm_em G op a b ln) := rm_fr_x h (fun c j a b e => pm_em_ne (by omega) (by omega)) ⟨pm_em_ne (by omega) (by omega), pm_em_ne (by omega) (by omega), pm_em_ne (by omega) (by omega)⟩
theorem rm_fr_la {F G : wq_F} {k x y z : Nat} (h : rm_fr F G) : rm_fr F (pm_la G k x y z) := rm_fr_x h (fun c j a b e => pm_la_ne (by omega) (by omega)) ⟨pm_la_ne (by omega) (by omega), pm_la_ne (by omega) (by omega), pm_la_ne (by omega) (by omega)⟩
theorem rm_fr_f {F G : wq_F} {k p : Nat} (h : rm_fr F G) : rm_fr F (pm_f G k p) := by
  unfold pm_f
  exact rm_fr_up (rm_fr_up h (by decide) (by decide)) (by decide) (by decide)
theorem rm_fr_z {F G : wq_F} (h : rm_fr F G) : rm_fr F (rm_z G) := rm_fr_em (rm_fr_em h)
theorem rm_z_4 {G : wq_F} {i : Nat} (hi : i ≠ 41) : rm_z G 0 i = G 0 i := by
  unfold rm_z
  rw [pm_em_ne (by omega) (by omega), pm_em_ne (by omega) (by omega)]
/-- from F the loop ends with a fault, this number at this place -/
def rm_out (nn k p : Nat) (F : wq_F) : Prop := ∃ c H, (∀ g, dk_29_134 nn (g + c) F 1 = some (0, H)) ∧ H 0 4 = k ∧ H 0 5 = p ∧ rm_fr F H
/-- a wait that fails ends it -/
theorem rm_fail {nn m r k p : Nat} {F F' : wq_F} (hm : F 0 46 = m + 1) (h4 : m < 4000) (h : dk_32 nn (wq_up F 0 46 m) (F 25 m) (F 26 m) (F 27 m) (F 28 m) = some (r, F')) (hr : r = 0 ∨ ¬ F' 0 4 = 0) (hk : F' 0 4 = k) (hp : F' 0 5 = p) (hf : rm_fr F F') (h41 : F' 0 41 < 13999) : rm_out nn k p F := by
  have hz := rm_fr_z hf
  refine ⟨2, rm_z F', fun g => ?_, by rw [rm_z_4 (by decide)]; exact hk, by rw [rm_z_4 (by decide)]; exact hp, hz⟩
  rw [show g + 2 = (g + 1) + 1 from rfl, rm_turn hm h4, h, od_bS]
  dsimp only
  by_cases q : r = 0
  · rw [if_pos q, rm_over h41]
  · rw [if_neg q, if_neg (hr.resolve_left q), rm_over h41]
theorem rm_to_out {nn k p : Nat} {F G : wq_F} (h : rm_to nn F G) (hf : rm_fr F G) (ho : rm_out nn k p G) : rm_out nn k p F := by
  obtain ⟨a, h⟩ := h
  obtain ⟨b, H, o1, o2, o3, o4⟩ := ho
  exact ⟨b + a, H, fun g => by rw [← Nat.add_assoc, h, o1], o2, o3, rm_fr_trans hf o4⟩
