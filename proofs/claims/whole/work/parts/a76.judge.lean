/-! ===== a76: the reference before its first token; both from the beginning (wip/whole2/lawa76.py) ===== -/
/-- the memory in which the reading begins -/
def im_0 (F : wq_F) : wq_F := wq_up (wq_up (wq_up (wq_up (wq_up (wq_up (wq_up (wq_up (wq_up (wq_up (wq_up (wq_up (wq_up (wq_up (wq_up (wq_up (wq_up (wq_up F 0 25 0) 0 46 0) 0 47 0) 0 50 0) 0 53 0) 31 0 0) 32 0 0) 0 56 0) 0 60 0) 0 41 0) 0 40 0) 0 34 1) 14 0 0) 15 0 0) 13 0 0) 16 0 1) 17 0 0) 12 0 0
theorem im_ne {F : wq_F} {d j : Nat} (h1 : ¬ (d = 0 ∧ (j = 25 ∨ j = 34 ∨ j = 40 ∨ j = 41 ∨ j = 46 ∨ j = 47 ∨ j = 50 ∨ j = 53 ∨ j = 56 ∨ j = 60))) (h2 : ¬ ((d = 31 ∨ d = 32 ∨ (12 ≤ d ∧ d ≤ 17)) ∧ j = 0)) : im_0 F d j = F d j := by
  unfold im_0
  rw [wq_up_ne (by omega), wq_up_ne (by omega), wq_up_ne (by omega), wq_up_ne (by omega), wq_up_ne (by omega), wq_up_ne (by omega), wq_up_ne (by omega), wq_up_ne (by omega), wq_up_ne (by omega), wq_up_ne (by omega), wq_up_ne (by omega), wq_up_ne (by omega), wq_up_ne (by omega), wq_up_ne (by omega), wq_up_ne (by omega), wq_up_ne (by omega), wq_up_ne (by omega), wq_up_ne (by omega)]
theorem im_pt {F : wq_F} : im_0 F 0 25 = 0 ∧ im_0 F 0 46 = 0 ∧ im_0 F 0 47 = 0 ∧ im_0 F 0 50 = 0 ∧ im_0 F 0 53 = 0 ∧ im_0 F 31 0 = 0 ∧ im_0 F 32 0 = 0 ∧ im_0 F 0 56 = 0 ∧ im_0 F 0 60 = 0 ∧ im_0 F 0 41 = 0 ∧ im_0 F 0 40 = 0 ∧ im_0 F 0 34 = 1 ∧ im_0 F 14 0 = 0 ∧ im_0 F 15 0 = 0 ∧ im_0 F 13 0 = 0 ∧ im_0 F 16 0 = 1 ∧ im_0 F 17 0 = 0 ∧ im_0 F 12 0 = 0 := by
  unfold im_0
  refine ⟨?_, ?_, ?_, ?_, ?_, ?_, ?_, ?_, ?_, ?_, ?_, ?_, ?_, ?_, ?_, ?_, ?_, ?_⟩
  · rw [wq_up_cell (by decide), wq_up_cell (by decide), wq_up_cell (by decide), wq_up_cell (by decide), wq_up_cell (by decide), wq_up_cell (by decide), wq_up_at (by decide), wq_up_at (by decide), wq_up_at (by decide), wq_up_at (by decide), wq_up_at (by decide), wq_up_cell (by decide), wq_up_cell (by decide), wq_up_at (by decide), wq_up_at (by decide), wq_up_at (by decide), wq_up_at (by decide), wq_up_same]
  · rw [wq_up_cell (by decide), wq_up_cell (by decide), wq_up_cell (by decide), wq_up_cell (by decide), wq_up_cell (by decide), wq_up_cell (by decide), wq_up_at (by decide), wq_up_at (by decide), wq_up_at (by decide), wq_up_at (by decide), wq_up_at (by decide), wq_up_cell (by decide), wq_up_cell (by decide), wq_up_at (by decide), wq_up_at (by decide), wq_up_at (by decide), wq_up_same]
  · rw [wq_up_cell (by decide), wq_up_cell (by decide), wq_up_cell (by decide), wq_up_cell (by decide), wq_up_cell (by decide), wq_up_cell (by decide), wq_up_at (by decide), wq_up_at (by decide), wq_up_at (by decide), wq_up_at (by decide), wq_up_at (by decide), wq_up_cell (by decide), wq_up_cell (by decide), wq_up_at (by decide), wq_up_at (by decide), wq_up_same]
  · rw [wq_up_cell (by decide), wq_up_cell (by decide), wq_up_cell (by decide), wq_up_cell (by decide), wq_up_cell (by decide), wq_up_cell (by decide), wq_up_at (by decide), wq_up_at (by decide), wq_up_at (by decide), wq_up_at (by decide), wq_up_at (by decide), wq_up_cell (by decide), wq_up_cell (by decide), wq_up_at (by decide), wq_up_same]
  · rw [wq_up_cell (by decide), wq_up_cell (by decide), wq_up_cell (by decide), wq_up_cell (by decide), wq_up_cell (by decide), wq_up_cell (by decide), wq_up_at (by decide), wq_up_at (by decide), wq_up_at (by decide), wq_up_at (by decide), wq_up_at (by decide), wq_up_cell (by decide), wq_up_cell (by decide), wq_up_same]
  · rw [wq_up_cell (by decide), wq_up_cell (by decide), wq_up_cell (by decide), wq_up_cell (by decide), wq_up_cell (by decide), wq_up_cell (by decide), wq_up_cell (by decide), wq_up_cell (by decide), wq_up_cell (by decide), wq_up_cell (by decide), wq_up_cell (by decide), wq_up_cell (by decide), wq_up_same]
  · rw [wq_up_cell (by decide), wq_up_cell (by decide), wq_up_cell (by decide), wq_up_cell (by decide), wq_up_cell (by decide), wq_up_cell (by decide), wq_up_cell (by decide), wq_up_cell (by decide), wq_up_cell (by decide), wq_up_cell (by decide), wq_up_cell (by decide), wq_up_same]
  · rw [wq_up_cell (by decide), wq_up_cell (by decide), wq_up_cell (by decide), wq_up_cell (by decide), wq_up_cell (by decide), wq_up_cell (by decide), wq_up_at (by decide), wq_up_at (by decide), wq_up_at (by decide), wq_up_at (by decide), wq_up_same]
  · rw [wq_up_cell (by decide), wq_up_cell (by decide), wq_up_cell (by decide), wq_up_cell (by decide), wq_up_cell (by decide), wq_up_cell (by decide), wq_up_at (by decide), wq_up_at (by decide), wq_up_at (by decide), wq_up_same]
  · rw [wq_up_cell (by decide), wq_up_cell (by decide), wq_up_cell (by decide), wq_up_cell (by decide), wq_up_cell (by decide), wq_up_cell (by decide), wq_up_at (by decide), wq_up_at (by decide), wq_up_same]
  · rw [wq_up_cell (by decide), wq_up_cell (by decide), wq_up_cell (by decide), wq_up_cell (by decide), wq_up_cell (by decide), wq_up_cell (by decide), wq_up_at (by decide), wq_up_same]
  · rw [wq_up_cell (by decide), wq_up_cell (by decide), wq_up_cell (by decide), wq_up_cell (by decide), wq_up_cell (by decide), wq_up_cell (by decide), wq_up_same]
  · rw [wq_up_cell (by decide), wq_up_cell (by decide), wq_up_cell (by decide), wq_up_cell (by decide), wq_up_cell (by decide), wq_up_same]
  · rw [wq_up_cell (by decide), wq_up_cell (by decide), wq_up_cell (by decide), wq_up_cell (by decide), wq_up_same]
  · rw [wq_up_cell (by decide), wq_up_cell (by decide), wq_up_cell (by decide), wq_up_same]
  · rw [wq_up_cell (by decide), wq_up_cell (by decide), wq_up_same]
  · rw [wq_up_cell (by decide), wq_up_same]
  · rw [wq_up_same]
theorem rf_eq {nn g : Nat} {F : wq_F} : dk_29x nn g F = rf_29 nn g (im_0 F) := by
  unfold dk_29x
  rw [od_upS, od_upS, od_upS, od_upS, od_upS, od_g1 (by decide), od_upS, od_g1 (by decide), od_upS, od_upS, od_upS, od_upS, od_upS, od_upS, od_g1 (by decide), od_upS, od_g1 (by decide), od_upS, od_g1 (by decide), od_upS, od_g1 (by decide), od_upS, od_g1 (by decide), od_upS, od_g1 (by decide), od_upS]
  rfl
section
variable {nn : Nat} {T : Nat → Nat} {n M O : Nat} {G0 : wq_F} {c0 : List (List Nat)} {i t w s nw ns np N : Nat} {off voff ph : Nat → Nat} {cx : Nat → List Nat} {c cb : List Nat} {W : List (Nat × Nat × Nat × Nat)} {L : List (Nat × Nat)} {P Q : List (Nat × Nat × Nat)} {ls cs : List (List Nat)} {F G : wq_F}

/-- the reference's first state -/
theorem ref_start (h0 : F 0 4 = 0) (h1 : F 1 = T) (h2 : F 0 2 = n) (hrt : rt_ok T n F (M + 1) ls) (hrs : rs_ok F ls) : ry T n M 0 ls 0 0 0 1 [] [] [] (im_0 F) := by
  obtain ⟨q1, q2, q3, q4, q5, q6, q7, q8, q9, q10, q11, q12, q13, q14, q15, q16, q17, q18⟩ := im_pt (F := F)
  have hne : ∀ d, 1 ≤ d → d ≤ 11 → im_0 F d = F d := fun d a b => funext fun j => im_ne (by omega) (by omega)
  refine ⟨⟨?_, q1, Nat.zero_le _, ?_, ?_, fun j hj => ?_, ?_⟩, ⟨q3, q10, q11, q12⟩, ⟨q2, trivial⟩, ⟨q8, trivial⟩, ⟨q9, trivial⟩⟩
  · rw [im_ne (by decide) (by decide)]
    exact h0
  · rw [hne 1 (by decide) (by decide)]
    exact h1
  · rw [im_ne (by decide) (by decide)]
    exact h2
  · rw [hne 10 (by decide) (by decide), hne 9 (by decide) (by decide), hne 11 (by decide) (by decide), hne 5 (by decide) (by decide)]
    exact hrt j hj
  · exact rs_ok_up hrs ⟨im_ne (by decide) (by decide), im_ne (by decide) (by decide)⟩ (fun c hc => hne c (by omega) (by omega))
/-- no name is known, one function is open -/
theorem none_known (hl : lsb ls) (hk : G 59 8 = 0 ∧ G 59 3 = 0 ∧ G 62 0 = 0 ∧ G 63 0 = 0 ∧ G 64 0 = 0 ∧ G 65 0 = 4294967294 ∧ G 17 0 = 0 ∧ G 18 0 = 0 ∧ G 19 0 = 0 ∧ G 20 0 = 0 ∧ G 22 0 = 1) : bz 1 (fun _ => 0) (fun _ => 0) (fun _ => 0) (fun _ => []) [] 1 (im_0 F) ls G cs := by
  obtain ⟨q1, q2, q3, q4, q5, q6, q7, q8, q9, q10, q11, q12, q13, q14, q15, q16, q17, q18⟩ := im_pt (F := F)
  obtain ⟨k1, k2, k3, k4, k5, k6, k7, k8, k9, k10, k11⟩ := hk
  refine ⟨⟨⟨by decide, by decide, by rw [q5], by rw [k1], rfl, rfl, k2, q4, by decide⟩, fun l hl => ?_, fun k hk => absurd hk (Nat.not_lt_zero _), fun j k _ hk => absurd hk (Nat.not_lt_zero _), fun i hi => absurd hi (Nat.not_lt_zero _), fun l k _ hk => absurd hk (Nat.not_lt_zero _), fun l j k _ _ _ hk => absurd hk (Nat.not_lt_zero _), fun l m a b => absurd a (by omega)⟩, ⟨?_, fun l hl => absurd hl (by omega)⟩, fun l hl => ?_, fun l hl => ?_, fun l k _ _ hk => absurd hk (Nat.not_lt_zero _), fun l hl => ?_, fun l hl => ?_, hl⟩
  · rw [show l = 0 by omega, k3, k4, q6, q7]
    exact ⟨Nat.le_refl _, Nat.le_refl _, rfl, rfl, rfl, by decide⟩
  · rw [k3]
    exact ⟨q14, k10⟩
  · rw [show l = 0 by omega, k3, q13, k9]
    exact ⟨rfl, Nat.zero_le _, Nat.zero_le _, fun k _ hk => absurd hk (Nat.not_lt_zero _)⟩
  · rw [show l = 0 by omega, k5, cxf_t (by decide)]
    rfl
  · rw [show l = 0 by omega, k3]
    decide
  · rw [show l = 0 by omega, k3, q16, k11, cxf_t (by decide)]
    exact ⟨rfl, fun e he => absurd he (List.not_mem_nil)⟩
/-- class and reference read a text from the same strings' bytes alike -/
theorem judge_ok {f u : Nat} (hM : tk_M T n M) (hn : 10000 < nn) (hn2 : 14000 < nn) (hO : O ≤ 20000) (h0 : F 0 4 = 0) (h1 : F 1 = T) (h2 : F 0 2 = n) (hrt : rt_ok T n F (M + 1) ls) (hrs : rs_ok F ls) (hl : lsb ls)
    (hls : cs.length ≤ 3000) (hR : cs_ok G cs) (hf : G 2 10 = f) (ht : G 2 11 = u) (hft : f ≤ u) (htl : u ≤ cs.length) (hf1 : f ≤ 1400) (hw : cs_w (cs.take f)) (ho : st_off cs f ≤ O) (hT : ∀ i, i < n → G 1 i = ev_b8 (T i)) (hs : G 56 12 < f ∧ cs.getD (G 56 12) [] = sf_b) (hok : ∀ j, j < 10000 → okj (G 14 j)) :
    wok (dk_76 nn G n) (fun r K => ∃ D, (∀ s, s < f → D 9 s = if G 9 s = 1 then 1 else 2) ∧ ((∃ i' w' s' nw' ns' np' ls' cs' H c' off' voff' ph', (∃ k, ∀ g, dk_29x nn (g + k) F = some (1, rm_z H)) ∧ (ry T n M i' ls' 0 w' nw' np' [] [] [] H ∧ cy T n D (cs.take f) O i' cs' (s' + 1) ns' np' 1 [] K ∧ bz 1 off' voff' ph' (fun _ => []) c' np' H ls' K cs') ∧ tk_k T n i' = 6 ∧ (st_sf ls ls' ∧ st_pre (cs.take f) cs' ∧ rm_fr F H) ∧ (w' ≤ 6 * i' + 1 ∧ s' ≤ 4 * i' + 1 ∧ nw' ≤ i' ∧ ns' ≤ i' ∧ np' ≤ 50 ∧ hg c' ≤ 2 * i') ∧ r = 0 ∧ K 62 0 = 0 ∧ ∀ (nm : Nat → Nat → Prop) (X : pt → Prop), nmr ls' cs' nm → sg (rm_z H) K nm X (0, 0, 0, [])) ∨
      ∃ e p, r = e ∧ ¬ e = 0 ∧ (∃ k H, (∀ g, dk_29x nn (g + k) F = some (0, H)) ∧ H 0 4 = e ∧ H 0 5 = p ∧ rm_fr F H) ∧ sx T n D (cs.take f) O e p 1 9000 K)) := by
  have hlen : (cs.take f).length = f := st_take_len (Nat.le_trans hft htl)
  obtain ⟨D, K, ms, e76, hcy, hpre, hk, hD, _⟩ := class_start (n := n) (O := O) (T := T) hn hls hR hf ht hft htl hf1 hw ho hO hM.2.2.2.1 hM.2.2.2.2 hT hs hok
  have hr := ref_start (M := M) h0 h1 h2 hrt hrs
  have hb := none_known (F := F) (cs := ms) hl hk
  have fr : rm_fr F (im_0 F) := rm_fr_x (rm_fr_refl _) (fun c j a b _ => im_ne (by omega) (by omega)) ⟨im_ne (by decide) (by decide), im_ne (by decide) (by decide), im_ne (by decide) (by decide)⟩
  rw [e76]
  refine wok_m (text_ok hM hn (by rw [hlen]; exact hf1) hO hn2 hr hcy hb hk.2.2.2.2.2.1) fun r K' h => ⟨D, hD, ?_⟩
  rcases h with ⟨i', w', s', nw', ns', np', ls', cs', H, c', off', voff', ph', ⟨k, a1⟩, a2, a3, ⟨a4, a5, a6⟩, a7, a8, a9, a10⟩ | ⟨e, p, b1, ⟨k, H, b2, b3, b4, b5⟩, b6⟩
  · rw [hk.2.2.1] at a9 a10
    exact Or.inl ⟨i', w', s', nw', ns', np', ls', cs', H, c', off', voff', ph', ⟨k, fun g => rf_eq.trans (a1 g)⟩, a2, a3, ⟨a4, st_pre_trans hpre a5, rm_fr_trans fr a6⟩, a7, a8, a9, a10⟩
  · exact Or.inr ⟨e, p, b1, b6.1.2.2.1, ⟨k, H, fun g => rf_eq.trans (b2 g), b3, b4, rm_fr_trans fr b5⟩, b6⟩
end
