/-! ===== a75: the class before its first token (wip/whole2/lawa75.py) ===== -/
/-- judge, behind the strings forgotten -/
def jc_76 (nn : Nat) (F : wq_F) (n : Nat) : Option (Nat × wq_F) := (dk_56 F).bind fun y9 => (dk_82 y9.2).bind fun y13 => od_up y13.2 56 4 0 fun F17 => od_up F17 56 11 0 fun F20 => (dk_57 F20 0).bind fun y23 => od_g (y23.1 < 50) <| od_up y23.2 17 y23.1 0 fun F28 => od_g (0 < 50) <| od_up F28 22 0 1 fun F32 => (dk_83 F32 0).bind fun y35 => (dk_72 y35.2 n).bind fun y39 => (dk_77 nn y39.2).bind fun y43 => cf_76 nn y43.2
theorem jc_eq {nn n : Nat} {G : wq_F} : dk_76 nn G n = ((dk_53 nn G).bind fun y => dk_52 nn y.2).bind fun y5 => jc_76 nn y5.2 n := by
  unfold dk_76
  rw [od_ba]
  rfl
theorem jc_57 {G : wq_F} (h : G 11 14 = 0) : dk_57 G 0 = some (0, wq_up (wq_up (wq_up (wq_up (wq_up (wq_up G 19 0 0) 18 0 0) 20 0 0) 22 0 0) 21 0 0) 11 14 1) := by
  unfold dk_57
  rw [h, od_g1 (by decide), od_upS, od_g1 (by decide), od_upS, od_g1 (by decide), od_upS, od_g1 (by decide), od_upS, od_g1 (by decide), od_upS, od_letS, wq_up_cell (by decide), wq_up_cell (by decide), wq_up_cell (by decide), wq_up_cell (by decide), wq_up_cell (by decide), h, od_upS]
theorem jc_83 {G : wq_F} (h : G 59 8 = 4294967295) (h3 : G 59 3 = 0) : dk_83 G 0 = some (0, wq_up (wq_up (wq_up (wq_up (wq_up G 59 8 0) 62 0 0) 63 0 0) 64 0 0) 65 0 4294967294) := by
  unfold dk_83
  rw [h, show (4294967295 + 1) % 4294967296 = 0 from rfl, od_upS, wq_up_same, od_g1 (by decide), od_upS]
  have e1 : wq_up (wq_up G 59 8 0) 62 0 0 59 8 = 0 := (wq_up_cell (by decide)).trans (wq_up_same _ _ _ _)
  have e1b : wq_up (wq_up G 59 8 0) 62 0 0 59 3 = 0 := (wq_up_cell (by decide)).trans ((wq_up_at (by decide)).trans h3)
  rw [e1, e1b, od_g1 (by decide), od_upS]
  have e2 : wq_up (wq_up (wq_up G 59 8 0) 62 0 0) 63 0 0 59 8 = 0 := (wq_up_cell (by decide)).trans e1
  rw [e2, od_g1 (by decide), od_upS]
  have e3 : wq_up (wq_up (wq_up (wq_up G 59 8 0) 62 0 0) 63 0 0) 64 0 0 59 8 = 0 := (wq_up_cell (by decide)).trans e2
  rw [e3, od_g1 (by decide), od_upS]
/-- the memory at the first token -/
def jm_0 (H : wq_F) (n : Nat) : wq_F := wq_up (wq_up (wq_up (wq_up (wq_up (wq_up (wq_up (wq_up (wq_up (wq_up (wq_up (wq_up (wq_up (wq_up (wq_up (wq_up (wq_up (wq_up (wq_up (wq_up (wq_up (wq_up (wq_up (wq_up (wq_up H 11 4 0) 11 6 0) 11 14 0) 59 8 4294967295) 59 3 0) 56 4 0) 56 11 0) 19 0 0) 18 0 0) 20 0 0) 22 0 0) 21 0 0) 11 14 1) 17 0 0) 22 0 1) 59 8 0) 62 0 0) 63 0 0) 64 0 0) 65 0 4294967294) 57 2 n) 57 3 0) 57 6 1) 57 7 0) 57 4 0
theorem jm_ne {H : wq_F} {n d j : Nat} (h1 : ¬ (d = 11 ∧ (j = 4 ∨ j = 6 ∨ j = 14))) (h2 : ¬ (d = 59 ∧ (j = 3 ∨ j = 8))) (h3 : ¬ (d = 56 ∧ (j = 4 ∨ j = 11))) (h4 : ¬ (17 ≤ d ∧ d ≤ 22 ∧ j = 0)) (h5 : ¬ (62 ≤ d ∧ d ≤ 65 ∧ j = 0)) (h6 : ¬ (d = 57 ∧ (j = 2 ∨ j = 3 ∨ j = 4 ∨ j = 6 ∨ j = 7))) : jm_0 H n d j = H d j := by
  unfold jm_0
  rw [wq_up_ne (by omega), wq_up_ne (by omega), wq_up_ne (by omega), wq_up_ne (by omega), wq_up_ne (by omega), wq_up_ne (by omega), wq_up_ne (by omega), wq_up_ne (by omega), wq_up_ne (by omega), wq_up_ne (by omega), wq_up_ne (by omega), wq_up_ne (by omega), wq_up_ne (by omega), wq_up_ne (by omega), wq_up_ne (by omega), wq_up_ne (by omega), wq_up_ne (by omega), wq_up_ne (by omega), wq_up_ne (by omega), wq_up_ne (by omega), wq_up_ne (by omega), wq_up_ne (by omega), wq_up_ne (by omega), wq_up_ne (by omega), wq_up_ne (by omega)]
theorem jm_pt {H : wq_F} {n : Nat} : jm_0 H n 11 4 = 0 ∧ jm_0 H n 11 6 = 0 ∧ jm_0 H n 11 14 = 1 ∧ jm_0 H n 59 8 = 0 ∧ jm_0 H n 59 3 = 0 ∧ jm_0 H n 56 4 = 0 ∧ jm_0 H n 56 11 = 0 ∧ jm_0 H n 17 0 = 0 ∧ jm_0 H n 18 0 = 0 ∧ jm_0 H n 19 0 = 0 ∧ jm_0 H n 20 0 = 0 ∧ jm_0 H n 22 0 = 1 ∧ jm_0 H n 62 0 = 0 ∧ jm_0 H n 63 0 = 0 ∧ jm_0 H n 64 0 = 0 ∧ jm_0 H n 65 0 = 4294967294 ∧ jm_0 H n 57 2 = n ∧ jm_0 H n 57 3 = 0 ∧ jm_0 H n 57 6 = 1 ∧ jm_0 H n 57 7 = 0 ∧ jm_0 H n 57 4 = 0 := by
  unfold jm_0
  refine ⟨?_, ?_, ?_, ?_, ?_, ?_, ?_, ?_, ?_, ?_, ?_, ?_, ?_, ?_, ?_, ?_, ?_, ?_, ?_, ?_, ?_⟩
  · rw [wq_up_cell (by decide), wq_up_cell (by decide), wq_up_cell (by decide), wq_up_cell (by decide), wq_up_cell (by decide), wq_up_cell (by decide), wq_up_cell (by decide), wq_up_cell (by decide), wq_up_cell (by decide), wq_up_cell (by decide), wq_up_cell (by decide), wq_up_cell (by decide), wq_up_at (by decide), wq_up_cell (by decide), wq_up_cell (by decide), wq_up_cell (by decide), wq_up_cell (by decide), wq_up_cell (by decide), wq_up_cell (by decide), wq_up_cell (by decide), wq_up_cell (by decide), wq_up_cell (by decide), wq_up_at (by decide), wq_up_at (by decide), wq_up_same]
  · rw [wq_up_cell (by decide), wq_up_cell (by decide), wq_up_cell (by decide), wq_up_cell (by decide), wq_up_cell (by decide), wq_up_cell (by decide), wq_up_cell (by decide), wq_up_cell (by decide), wq_up_cell (by decide), wq_up_cell (by decide), wq_up_cell (by decide), wq_up_cell (by decide), wq_up_at (by decide), wq_up_cell (by decide), wq_up_cell (by decide), wq_up_cell (by decide), wq_up_cell (by decide), wq_up_cell (by decide), wq_up_cell (by decide), wq_up_cell (by decide), wq_up_cell (by decide), wq_up_cell (by decide), wq_up_at (by decide), wq_up_same]
  · rw [wq_up_cell (by decide), wq_up_cell (by decide), wq_up_cell (by decide), wq_up_cell (by decide), wq_up_cell (by decide), wq_up_cell (by decide), wq_up_cell (by decide), wq_up_cell (by decide), wq_up_cell (by decide), wq_up_cell (by decide), wq_up_cell (by decide), wq_up_cell (by decide), wq_up_same]
  · rw [wq_up_cell (by decide), wq_up_cell (by decide), wq_up_cell (by decide), wq_up_cell (by decide), wq_up_cell (by decide), wq_up_cell (by decide), wq_up_cell (by decide), wq_up_cell (by decide), wq_up_cell (by decide), wq_up_same]
  · rw [wq_up_cell (by decide), wq_up_cell (by decide), wq_up_cell (by decide), wq_up_cell (by decide), wq_up_cell (by decide), wq_up_cell (by decide), wq_up_cell (by decide), wq_up_cell (by decide), wq_up_cell (by decide), wq_up_at (by decide), wq_up_cell (by decide), wq_up_cell (by decide), wq_up_cell (by decide), wq_up_cell (by decide), wq_up_cell (by decide), wq_up_cell (by decide), wq_up_cell (by decide), wq_up_cell (by decide), wq_up_cell (by decide), wq_up_cell (by decide), wq_up_same]
  · rw [wq_up_cell (by decide), wq_up_cell (by decide), wq_up_cell (by decide), wq_up_cell (by decide), wq_up_cell (by decide), wq_up_cell (by decide), wq_up_cell (by decide), wq_up_cell (by decide), wq_up_cell (by decide), wq_up_cell (by decide), wq_up_cell (by decide), wq_up_cell (by decide), wq_up_cell (by decide), wq_up_cell (by decide), wq_up_cell (by decide), wq_up_cell (by decide), wq_up_cell (by decide), wq_up_cell (by decide), wq_up_at (by decide), wq_up_same]
  · rw [wq_up_cell (by decide), wq_up_cell (by decide), wq_up_cell (by decide), wq_up_cell (by decide), wq_up_cell (by decide), wq_up_cell (by decide), wq_up_cell (by decide), wq_up_cell (by decide), wq_up_cell (by decide), wq_up_cell (by decide), wq_up_cell (by decide), wq_up_cell (by decide), wq_up_cell (by decide), wq_up_cell (by decide), wq_up_cell (by decide), wq_up_cell (by decide), wq_up_cell (by decide), wq_up_cell (by decide), wq_up_same]
  · rw [wq_up_cell (by decide), wq_up_cell (by decide), wq_up_cell (by decide), wq_up_cell (by decide), wq_up_cell (by decide), wq_up_cell (by decide), wq_up_cell (by decide), wq_up_cell (by decide), wq_up_cell (by decide), wq_up_cell (by decide), wq_up_cell (by decide), wq_up_same]
  · rw [wq_up_cell (by decide), wq_up_cell (by decide), wq_up_cell (by decide), wq_up_cell (by decide), wq_up_cell (by decide), wq_up_cell (by decide), wq_up_cell (by decide), wq_up_cell (by decide), wq_up_cell (by decide), wq_up_cell (by decide), wq_up_cell (by decide), wq_up_cell (by decide), wq_up_cell (by decide), wq_up_cell (by decide), wq_up_cell (by decide), wq_up_cell (by decide), wq_up_same]
  · rw [wq_up_cell (by decide), wq_up_cell (by decide), wq_up_cell (by decide), wq_up_cell (by decide), wq_up_cell (by decide), wq_up_cell (by decide), wq_up_cell (by decide), wq_up_cell (by decide), wq_up_cell (by decide), wq_up_cell (by decide), wq_up_cell (by decide), wq_up_cell (by decide), wq_up_cell (by decide), wq_up_cell (by decide), wq_up_cell (by decide), wq_up_cell (by decide), wq_up_cell (by decide), wq_up_same]
  · rw [wq_up_cell (by decide), wq_up_cell (by decide), wq_up_cell (by decide), wq_up_cell (by decide), wq_up_cell (by decide), wq_up_cell (by decide), wq_up_cell (by decide), wq_up_cell (by decide), wq_up_cell (by decide), wq_up_cell (by decide), wq_up_cell (by decide), wq_up_cell (by decide), wq_up_cell (by decide), wq_up_cell (by decide), wq_up_cell (by decide), wq_up_same]
  · rw [wq_up_cell (by decide), wq_up_cell (by decide), wq_up_cell (by decide), wq_up_cell (by decide), wq_up_cell (by decide), wq_up_cell (by decide), wq_up_cell (by decide), wq_up_cell (by decide), wq_up_cell (by decide), wq_up_cell (by decide), wq_up_same]
  · rw [wq_up_cell (by decide), wq_up_cell (by decide), wq_up_cell (by decide), wq_up_cell (by decide), wq_up_cell (by decide), wq_up_cell (by decide), wq_up_cell (by decide), wq_up_cell (by decide), wq_up_same]
  · rw [wq_up_cell (by decide), wq_up_cell (by decide), wq_up_cell (by decide), wq_up_cell (by decide), wq_up_cell (by decide), wq_up_cell (by decide), wq_up_cell (by decide), wq_up_same]
  · rw [wq_up_cell (by decide), wq_up_cell (by decide), wq_up_cell (by decide), wq_up_cell (by decide), wq_up_cell (by decide), wq_up_cell (by decide), wq_up_same]
  · rw [wq_up_cell (by decide), wq_up_cell (by decide), wq_up_cell (by decide), wq_up_cell (by decide), wq_up_cell (by decide), wq_up_same]
  · rw [wq_up_at (by decide), wq_up_at (by decide), wq_up_at (by decide), wq_up_at (by decide), wq_up_same]
  · rw [wq_up_at (by decide), wq_up_at (by decide), wq_up_at (by decide), wq_up_same]
  · rw [wq_up_at (by decide), wq_up_at (by decide), wq_up_same]
  · rw [wq_up_at (by decide), wq_up_same]
  · rw [wq_up_same]
theorem jc_56 {G : wq_F} : dk_56 G = some (0, wq_up (wq_up (wq_up G 11 4 0) 11 6 0) 11 14 0) := rfl
theorem jc_82 {G : wq_F} : dk_82 G = some (0, wq_up (wq_up G 59 8 4294967295) 59 3 0) := rfl
theorem jc_72 {G : wq_F} {n : Nat} : dk_72 G n = some (0, wq_up (wq_up (wq_up (wq_up (wq_up G 57 2 n) 57 3 0) 57 6 1) 57 7 0) 57 4 0) := rfl
theorem jc_go {nn n : Nat} {H : wq_F} : jc_76 nn H n = (dk_77 nn (jm_0 H n)).bind fun y43 => cf_76 nn y43.2 := by
  have e57 := jc_57 (G := wq_up (wq_up (wq_up (wq_up (wq_up (wq_up (wq_up H 11 4 0) 11 6 0) 11 14 0) 59 8 4294967295) 59 3 0) 56 4 0) 56 11 0) (by rw [wq_up_cell (by decide), wq_up_cell (by decide), wq_up_cell (by decide), wq_up_cell (by decide), wq_up_same])
  have e83 := jc_83 (G := wq_up (wq_up (wq_up (wq_up (wq_up (wq_up (wq_up (wq_up (wq_up (wq_up (wq_up (wq_up (wq_up (wq_up (wq_up H 11 4 0) 11 6 0) 11 14 0) 59 8 4294967295) 59 3 0) 56 4 0) 56 11 0) 19 0 0) 18 0 0) 20 0 0) 22 0 0) 21 0 0) 11 14 1) 17 0 0) 22 0 1) (by rw [wq_up_cell (by decide), wq_up_cell (by decide), wq_up_cell (by decide), wq_up_cell (by decide), wq_up_cell (by decide), wq_up_cell (by decide), wq_up_cell (by decide), wq_up_cell (by decide), wq_up_cell (by decide), wq_up_cell (by decide), wq_up_at (by decide), wq_up_same]) (by rw [wq_up_cell (by decide), wq_up_cell (by decide), wq_up_cell (by decide), wq_up_cell (by decide), wq_up_cell (by decide), wq_up_cell (by decide), wq_up_cell (by decide), wq_up_cell (by decide), wq_up_cell (by decide), wq_up_cell (by decide), wq_up_same])
  unfold jm_0 jc_76
  rw [jc_56, od_bS]
  dsimp only
  rw [jc_82, od_bS]
  dsimp only
  rw [od_upS, od_upS, e57, od_bS]
  dsimp only
  rw [od_g1 (by decide), od_upS, od_g1 (by decide), od_upS, e83, od_bS]
  dsimp only
  rw [jc_72, od_bS]
theorem class_start {nn n O f t : Nat} {T : Nat → Nat} {G : wq_F} {ls : List (List Nat)} (hn : 10000 < nn) (hls : ls.length ≤ 3000) (hR : cs_ok G ls) (hf : G 2 10 = f) (ht : G 2 11 = t) (hft : f ≤ t) (htl : t ≤ ls.length) (hf1 : f ≤ 1400) (hw : cs_w (ls.take f)) (ho : st_off ls f ≤ O) (hO : O ≤ 20000) (hn6 : n ≤ 6000) (hC : ∀ i, i < n → T i < 256) (hT : ∀ i, i < n → G 1 i = ev_b8 (T i)) (hs : G 56 12 < f ∧ ls.getD (G 56 12) [] = sf_b) (hok : ∀ j, j < 10000 → okj (G 14 j)) :
    ∃ H K cs, dk_76 nn G n = cf_76 nn K ∧ cy T n H (ls.take f) O 0 cs 0 0 1 1 [] K ∧ st_pre (ls.take f) cs ∧ (K 59 8 = 0 ∧ K 59 3 = 0 ∧ K 62 0 = 0 ∧ K 63 0 = 0 ∧ K 64 0 = 0 ∧ K 65 0 = 4294967294 ∧ K 17 0 = 0 ∧ K 18 0 = 0 ∧ K 19 0 = 0 ∧ K 20 0 = 0 ∧ K 22 0 = 1) ∧ (∀ s, s < f → H 9 s = if G 9 s = 1 then 1 else 2) ∧ ∀ c j, c ≤ 1 ∨ (24 ≤ c ∧ c ≤ 55) ∨ 67 ≤ c ∨ (c = 2 ∧ j = 10) ∨ (c = 56 ∧ j = 12) → K c j = G c j := by
  obtain ⟨H, d1, d2, d3, d4, d5, d6, d7⟩ := dkS_drop (nn := nn) hls hR hf ht hft htl (by omega)
  have hfl : f ≤ ls.length := Nat.le_trans hft htl
  have hlen : (ls.take f).length = f := st_take_len hfl
  obtain ⟨p1, p2, p3, p4, p5, p6, p7, p8, p9, p10, p11, p12, p13, p14, p15, p16, p17, p18, p19, p20, p21⟩ := jm_pt (H := H) (n := n)
  have hne : ∀ d, d < 11 → jm_0 H n d = H d := fun d hd => funext fun j => jm_ne (by omega) (by omega) (by omega) (by omega) (by omega) (by omega)
  have c1 : cs_ok (jm_0 H n) (ls.take f) := cs_ok_up d2 ⟨by rw [hne 2 (by decide)], by rw [hne 2 (by decide)]⟩ (fun c a b => hne c (by omega))
  have hT1 : ∀ i, i < n → jm_0 H n 1 i = ev_b8 (T i) := fun i hi => by
    rw [hne 1 (by decide), d7 1 i (by decide) (by decide) (fun z => absurd z (by decide))]
    exact hT i hi
  have hps : px_str H (ls.take f) (fun _ => False) (jm_0 H n) (ls.take f) := by
    refine ⟨fun s _ => rfl, Nat.le_refl _, fun s a b => absurd b (by omega), fun s _ => Or.inl (by rw [hne 9 (by decide)]), fun s _ => ?_, by rw [hne 2 (by decide), d3, hlen]⟩
    rw [hne 9 (by decide)]
    exact ⟨fun z => absurd (z.1.symm.trans z.2) (by decide), fun z => z.2.elim⟩
  have h0 : tk_pos T n 0 = lx_skip T n (n + 1) 0 := rfl
  obtain ⟨K, ms, k1, k2, k3, k4⟩ := px_go (nn := nn) (T := T) (n := n) (O := O) (i := 0) (e := 0) (G0 := H) (G := jm_0 H n) (c0 := ls.take f) (cs := ls.take f) (Sd := fun _ => False) hn6 hC h0 (Nat.zero_le _) p6 (by rw [p21]; decide) p18 p19 p20 (by decide) c1 hw p17 hT1 (by omega) (by rw [hlen, st_take_off hfl (Nat.le_refl _)]; exact ho) hps (fun b => tk_said_0) (by omega) (by omega) (by decide) hO
  have e77 : dk_77 nn (jm_0 H n) = some (0, K) := by
    unfold dk_77
    rw [p20, if_neg (fun z => absurd ((wd_slt (by decide) (by decide)).mp z) (by decide))]
    exact k1
  have kx : ∀ d j, 10 < d → ¬ d = 57 → K d j = jm_0 H n d j := fun d j a b => k3 d j (by omega) (fun z => absurd z (by omega)) (fun z => absurd z b)
  have g12 : K 56 12 = G 56 12 := by rw [kx 56 12 (by decide) (by decide), jm_ne (by decide) (by decide) (by decide) (by decide) (by decide) (by decide), d7 56 12 (by decide) (by decide) (by decide)]
  refine ⟨H, K, ms, ?_, ⟨k2, ⟨?_, ?_, ?_, ?_⟩, ⟨?_, trivial⟩, ⟨?_, ?_⟩, fun j hj => ?_, fun l hl => ?_⟩, k4, ⟨?_, ?_, ?_, ?_, ?_, ?_, ?_, ?_, ?_, ?_, ?_⟩, d6, fun c j q => ?_⟩
  · rw [jc_eq, d1, od_bS]
    dsimp only
    rw [jc_go, e77, od_bS]
  · rw [kx 11 4 (by decide) (by decide)]; exact p1
  · rw [kx 11 6 (by decide) (by decide)]; exact p2
  · rw [kx 11 14 (by decide) (by decide)]; exact p3
  · rw [kx 59 8 (by decide) (by decide), p4]
  · rw [kx 56 11 (by decide) (by decide)]; exact p7
  · rw [g12, hlen]; exact hs.1
  · rw [g12, st_take_get hs.1 hfl]; exact hs.2
  · rw [kx 14 j (by decide) (by decide), jm_ne (by omega) (by omega) (by omega) (by omega) (by omega) (by omega), d7 14 j (by decide) (by decide) (fun z => absurd z (by decide))]
    exact hok j hj
  · rw [show l = 0 by omega, kx 65 0 (by decide) (by decide), p16]
    exact okj_n (by decide)
  · rw [kx 59 8 (by decide) (by decide)]; exact p4
  · rw [kx 59 3 (by decide) (by decide)]; exact p5
  · rw [kx 62 0 (by decide) (by decide)]; exact p13
  · rw [kx 63 0 (by decide) (by decide)]; exact p14
  · rw [kx 64 0 (by decide) (by decide)]; exact p15
  · rw [kx 65 0 (by decide) (by decide)]; exact p16
  · rw [kx 17 0 (by decide) (by decide)]; exact p8
  · rw [kx 18 0 (by decide) (by decide)]; exact p9
  · rw [kx 19 0 (by decide) (by decide)]; exact p10
  · rw [kx 20 0 (by decide) (by decide)]; exact p11
  · rw [kx 22 0 (by decide) (by decide)]; exact p12
  · rw [k3 c j (by omega) (fun z => by omega) (fun z => by omega), jm_ne (by omega) (by omega) (by omega) (by omega) (by omega) (by omega), d7 c j (by omega) (by omega) (fun z => by omega)]
