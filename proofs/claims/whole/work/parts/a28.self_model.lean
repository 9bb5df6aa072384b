/-! ===== a28: self among the reference's names (wip/whole2/lawa28.py) ===== -/
theorem dkL_21n {n g a v : Nat} {F : wq_F} (hv : ¬ 2147483648 ≤ v) (hy : ev_oAnd (ev_oL2i (ev_oUshL a v)) 255 = 0) : dk_21_3 n (g + 1) F a v = dk_21_3 n g F a ((v + 4294967288) % 4294967296) := by
  show dk_21_3b n (dk_21_3 n g) F a v = _
  unfold dk_21_3b
  rw [if_neg hv, od_letS, hy, if_neg (by decide), od_letS]
theorem dkL_21p {n g a v y k : Nat} {F : wq_F} (hv : ¬ 2147483648 ≤ v) (hy : ev_oAnd (ev_oL2i (ev_oUshL a v)) 255 = y) (y1 : 0 < y ∧ y < 2147483648) (y2 : ev_b8 (ev_b8 y) = y) (hk : F 0 20 = k) (hk2 : k < 100) : dk_21_3 n (g + 1) F a v = dk_21_3 n g (wq_up (wq_up F 8 k y) 0 20 (k + 1)) a ((v + 4294967288) % 4294967296) := by
  show dk_21_3b n (dk_21_3 n g) F a v = _
  unfold dk_21_3b
  rw [if_neg hv, od_letS, hy, if_pos y1, hk, od_g1 (by omega), od_upS, y2, wq_up_cell (by decide), hk, od_letS, od_upS, Nat.mod_eq_of_lt (show k + 1 < 4294967296 by omega), od_letS]
/-- the buffer with self -/
def sf_buf (F : wq_F) : wq_F := wq_up (wq_up (wq_up (wq_up (wq_up (wq_up (wq_up (wq_up (wq_up F 0 20 0) 8 0 115) 0 20 1) 8 1 101) 0 20 2) 8 2 108) 0 20 3) 8 3 102) 0 20 4
theorem dkS_21s {n : Nat} {F : wq_F} (hn : 9 < n) : dk_21 n (wq_up F 0 20 0) 18446744075645578342 = some (0, sf_buf F) := by
  obtain ⟨m, rfl⟩ : ∃ m, n = m + 9 := ⟨n - 9, by omega⟩
  unfold dk_21
  rw [dkL_21n (g := m + 8) (by decide) (by decide)]
  show dk_21_3 _ (m + 8) _ _ 48 = _
  rw [dkL_21n (g := m + 7) (by decide) (by decide)]
  show dk_21_3 _ (m + 7) _ _ 40 = _
  rw [dkL_21n (g := m + 6) (by decide) (by decide)]
  show dk_21_3 _ (m + 6) _ _ 32 = _
  rw [dkL_21n (g := m + 5) (by decide) (by decide)]
  show dk_21_3 _ (m + 5) _ _ 24 = _
  rw [dkL_21p (g := m + 4) (y := 115) (k := 0) (by decide) (by decide) (by decide) (by decide) (wq_up_same _ _ _ _) (by decide)]
  show dk_21_3 _ (m + 4) _ _ 16 = _
  rw [dkL_21p (g := m + 3) (y := 101) (k := 1) (by decide) (by decide) (by decide) (by decide) (wq_up_same _ _ _ _) (by decide)]
  show dk_21_3 _ (m + 3) _ _ 8 = _
  rw [dkL_21p (g := m + 2) (y := 108) (k := 2) (by decide) (by decide) (by decide) (by decide) (wq_up_same _ _ _ _) (by decide)]
  show dk_21_3 _ (m + 2) _ _ 0 = _
  rw [dkL_21p (g := m + 1) (y := 102) (k := 3) (by decide) (by decide) (by decide) (by decide) (wq_up_same _ _ _ _) (by decide)]
  show dk_21_3b _ (dk_21_3 _ m) _ _ 4294967288 = _
  unfold dk_21_3b
  rw [if_pos (by decide)]
  rfl
theorem sf_buf_20 {F : wq_F} : sf_buf F 0 20 = 4 := wq_up_same _ _ _ _
theorem sf_buf_c {F : wq_F} {d j : Nat} (h1 : ¬ d = 8) (h2 : ¬ (d = 0 ∧ j = 20)) : sf_buf F d j = F d j := by
  unfold sf_buf
  rw [wq_up_ne h2, wq_up_cell h1, wq_up_ne h2, wq_up_cell h1, wq_up_ne h2, wq_up_cell h1, wq_up_ne h2, wq_up_cell h1, wq_up_ne h2]
theorem sf_buf_is {F : wq_F} : bf_is (sf_buf F 8) sf_b := by
  intro k hk
  have hk4 : k < 4 := hk
  unfold sf_buf
  rw [wq_up_cell (by decide)]
  by_cases q3 : k = 3
  · rw [q3, wq_up_same]
    rfl
  rw [wq_up_at q3, wq_up_cell (by decide)]
  by_cases q2 : k = 2
  · rw [q2, wq_up_same]
    rfl
  rw [wq_up_at q2, wq_up_cell (by decide)]
  by_cases q1 : k = 1
  · rw [q1, wq_up_same]
    rfl
  rw [wq_up_at q1, wq_up_cell (by decide), show k = 0 by omega, wq_up_same]
  rfl
theorem rs_res_50 {F : wq_F} {h i : Nat} {o : Option Nat} (hi : i < F 0 14) : (rs_res F 0 h o).2 5 i = F 5 i := by
  cases o with
  | some s =>
    show wq_up F 5 s (if (0 : Nat) = 1 then 1 else F 5 s) 5 i = F 5 i
    rw [if_neg (by decide)]
    by_cases q : i = s
    · rw [q, wq_up_same]
    · rw [wq_up_at q]
  | none =>
    show rs_add F 0 h 5 i = F 5 i
    unfold rs_add
    rw [wq_up_cell (by decide), cpb_c (by decide), wq_up_cell (by decide), wq_up_cell (by decide), wq_up_at (by omega), wq_up_cell (by decide), wq_up_cell (by decide), wq_up_cell (by decide)]
theorem sf_with (ls : List (List Nat)) : st_sf ls (st_with ls sf_b) := by
  unfold st_with
  cases st_ix ls sf_b with
  | some s => exact st_sf_refl ls
  | none =>
    refine ⟨⟨by show ls.length ≤ (ls ++ [sf_b]).length; rw [List.length_append]; omega, fun s hs => ?_⟩, fun s h1 h2 => ?_⟩
    · show (ls ++ [sf_b]).getD s [] = ls.getD s []
      exact gd_app hs
    · have h3 : (ls ++ [sf_b]).length = ls.length + 1 := by rw [List.length_append]; rfl
      show (ls ++ [sf_b]).getD s [] = sf_b
      have h4 : s < (ls ++ [sf_b]).length := h2
      rw [show s = ls.length by omega, st_getD_last]
theorem lsb_off {F : wq_F} {ls : List (List Nat)} (h : lsb ls) (hr : rs_ok F ls) : st_off ls ls.length ≤ 39004 := by
  have hl := h
  obtain ⟨l0, ⟨h1, h1b⟩, h2⟩ := h
  have hlen : ls.length ≤ l0.length + 1 := by
    by_cases q : ls.length ≤ l0.length + 1
    · exact q
    · exfalso
      have n1 := hr.2.2.2.2.2.2 l0.length (l0.length + 1) (by omega) (by omega)
      exact n1 ((h2.2 l0.length (by omega) (by omega)).trans (h2.2 (l0.length + 1) (by omega) (by omega)).symm)
  have hlow := h2.1.1
  have ho : ∀ m, m ≤ l0.length → st_off ls m = st_off l0 m := by
    intro m
    induction m with
    | zero => intro _; rfl
    | succ m ih =>
      intro hm
      show st_off ls m + (ls.getD m []).length = st_off l0 m + (l0.getD m []).length
      rw [ih (by omega), h2.1.2 m (by omega)]
  by_cases q : ls.length = l0.length
  · rw [q, ho l0.length (Nat.le_refl _)]
    omega
  · rw [show ls.length = l0.length + 1 by omega]
    show st_off ls l0.length + (ls.getD l0.length []).length ≤ 39004
    rw [ho l0.length (Nat.le_refl _), h2.2 l0.length (Nat.le_refl _) (by omega)]
    have : sf_b.length = 4 := rfl
    omega
section
variable {nn : Nat} {T : Nat → Nat} {n M O : Nat} {G0 : wq_F} {c0 : List (List Nat)} {i t w s nw ns np N : Nat} {off voff ph : Nat → Nat} {cx : Nat → List Nat} {c cb : List Nat} {W : List (Nat × Nat × Nat × Nat)} {L : List (Nat × Nat)} {P Q : List (Nat × Nat × Nat)} {ls cs : List (List Nat)} {F G : wq_F}

theorem bz_ls {H : wq_F} {ls' : List (List Nat)} (hb : bz N off voff ph cx c np F ls G cs) (hF : bzF F H) (hl : st_sf ls ls') : bz N off voff ph cx c np H ls' G cs := bz_x hb hF (bzG_refl _) hl.1 (lsb_sf hb.2.2.2.2.2.2.2 hl) (st_pre_refl _) (Nat.le_refl _) hb.2.2.2.1 (fun _ _ _ a => a) (bz_fr hb)
/-- the reference puts self among its names -/
theorem re_self {g : Nat × wq_F → Option (Nat × wq_F)} (hr : ry T n M i ls t w nw np W L P F) (hlb : lsb ls) (hn : 10000 < nn) :
    ∃ s H ls', (od_up F 0 20 0 fun F60 => (dk_21 nn F60 18446744075645578342).bind fun y63 => (dk_22 nn y63.2 0).bind g) = g (s, H) ∧ ry T n M i ls' t w nw np W L P H ∧ rm_fr F H ∧ (∀ d j, (d = 0 → ¬ j = 8 ∧ ¬ j = 14 ∧ ¬ j = 20) → ¬ (2 ≤ d ∧ d ≤ 8) → H d j = F d j) ∧ s < ls'.length ∧ ls'.getD s [] = sf_b ∧ st_sf ls ls' := by
  have hR := hr.1.2.2.2.2.2.2
  have hlen := lsb_len hlb hR
  have hoff := lsb_off hlb hR
  have h8 : ∀ k, k < sf_b.length → ev_b8 (sf_b.getD k 0) = sf_b.getD k 0 := by decide
  have key : ∀ ms, rs_ok F ms → rs_ok (sf_buf F) ms ∧ dk_22 nn (sf_buf F) 0 = some (rs_res (sf_buf F) 0 (rh sf_b) (st_ix ms sf_b)) := fun ms hms => by
    have e1 : rs_ok (sf_buf F) ms := rs_ok_up hms ⟨sf_buf_c (by decide) (by decide), sf_buf_c (by decide) (by decide)⟩ (fun c hc => funext fun j => sf_buf_c (by omega) (by omega))
    have a1 := hms.1.symm.trans hR.1
    have a2 := hms.2.1.symm.trans hR.2.1
    refine ⟨e1, dkS_22 (b := sf_b) e1 sf_buf_is sf_buf_20 (by decide) (by show 4 < nn; omega) (by omega) (by omega) ?_⟩
    rw [a2]
    show st_off ls ls.length + 4 ≤ 40000
    omega
  obtain ⟨k1, k2⟩ := key ls hR
  obtain ⟨o1, o2, o3⟩ := rs_res_ok (sort := 0) k1 sf_buf_is h8 sf_buf_20
  have hfr : ∀ d j, (d = 0 → ¬ j = 8 ∧ ¬ j = 14 ∧ ¬ j = 20) → ¬ (2 ≤ d ∧ d ≤ 8) → (rs_res (sf_buf F) 0 (rh sf_b) (st_ix ls sf_b)).2 d j = F d j := fun d j q1 q2 => by
    rw [rs_res_c (by omega) (fun z => ⟨(q1 z).1, (q1 z).2.1⟩), sf_buf_c (by omega) (fun z => (q1 z.1).2.2 z.2)]
  have h5 : ∀ j, j < ls.length → (rs_res (sf_buf F) 0 (rh sf_b) (st_ix ls sf_b)).2 5 j = F 5 j := fun j hj => by
    rw [rs_res_50 (by rw [sf_buf_c (by decide) (by decide), hR.1]; exact hj), sf_buf_c (by decide) (by omega)]
  have hw := sf_with ls
  refine ⟨(rs_res (sf_buf F) 0 (rh sf_b) (st_ix ls sf_b)).1, (rs_res (sf_buf F) 0 (rh sf_b) (st_ix ls sf_b)).2, st_with ls sf_b, ?_, ?_, ?_, hfr, o2, o3, hw⟩
  · rw [od_upS, dkS_21s (by omega), od_bS]
    dsimp only
    rw [k2, od_bS]
  · have hfr1 := hfr 1
    have hfr0 := hfr 0
    generalize (rs_res (sf_buf F) 0 (rh sf_b) (st_ix ls sf_b)).2 = H at *
    obtain ⟨⟨p1, p2, p3, p4, p5, p6, p7⟩, ⟨h2, h2b, h2c, h2d⟩, ⟨h3, h4⟩, ⟨h6, h7⟩, ⟨h9, h10⟩⟩ := hr
    refine ⟨⟨(hfr 0 4 (fun _ => by decide) (by decide)).trans p1, (hfr 0 25 (fun _ => by decide) (by decide)).trans p2, p3, (funext fun j => hfr 1 j (by omega) (by decide)).trans p4, (hfr 0 2 (fun _ => by decide) (by decide)).trans p5, fun j hj => ?_, o1⟩, ⟨(hfr 0 47 (fun _ => by decide) (by decide)).trans h2, (hfr 0 41 (fun _ => by decide) (by decide)).trans h2b, (hfr 0 40 (fun _ => by decide) (by decide)).trans h2c, (hfr 0 34 (fun _ => by decide) (by decide)).trans h2d⟩, ⟨(hfr 0 46 (fun _ => by decide) (by decide)).trans h3, ry_wa_x h4 (fun c j a b _ => hfr c j (by omega) (by omega))⟩, ⟨(hfr 0 56 (fun _ => by decide) (by decide)).trans h6, ry_lo_x h7 (fun c j a b _ => hfr c j (by omega) (by omega))⟩, ⟨(hfr 0 60 (fun _ => by decide) (by decide)).trans h9, ry_pl_x h10 (fun c j a b _ => hfr c j (by omega) (by omega))⟩⟩
    obtain ⟨t1, t2, t3, t4⟩ := p6 j hj
    rw [hfr 10 j (by omega) (by omega), hfr 9 j (by omega) (by omega), hfr 11 j (by omega) (by omega)]
    refine ⟨t1, t2, t3, fun q => ?_⟩
    obtain ⟨u1, u2, u3⟩ := t4 q
    exact ⟨Nat.lt_of_lt_of_le u1 hw.1.1, (hw.1.2 _ u1).trans u2, (h5 _ u1).trans u3⟩
  · refine ⟨fun j => hfr 1 j (by omega) (by decide), hfr 0 2 (fun _ => by decide) (by decide), fun ms hms => ?_⟩
    obtain ⟨m1, m2⟩ := key ms hms
    have e := Option.some.inj (m2.symm.trans k2)
    obtain ⟨q1, q2, q3⟩ := rs_res_ok (sort := 0) m1 sf_buf_is h8 sf_buf_20
    rw [e] at q1
    exact ⟨st_with ms sf_b, q1, sf_with ms⟩
end
