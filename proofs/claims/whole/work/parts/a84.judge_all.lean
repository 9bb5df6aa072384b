/-! ===== a84: the reading, and what it leaves as it was (wip/whole2/lawa84.py) ===== -/
theorem wok_q {m : Option (Nat × wq_F)} {A : Nat → wq_F → Prop} {P : wq_F → Prop} (h : wok m A) (g : ∀ x, m = some x → P x.2) : wok m (fun r K => A r K ∧ P K) := by
  obtain ⟨r, K, e, a⟩ := h
  exact ⟨r, K, e, a, g (r, K) e⟩
theorem fe_end {nn : Nat} {v K : wq_F} (h : fc v K) : fe v (dk_76_114 nn K) := by
  unfold dk_76_114
  exact fe_b (fe_84 h) (fun _ _ h => fe_b (fe_78 h) (fun _ _ h => fe_r h))
theorem fe_cf {nn : Nat} {v K : wq_F} (h : fc v K) : fe v (cf_76 nn K) := by
  unfold cf_76
  exact fe_b (fe_78 h) (fun _ _ h => fe_b (fe_R _ _ _ _ _ h) (fun _ _ h => fe_i (fe_end h) (fe_b (fe_109 h) (fun _ _ h => fe_end h))))
theorem qe_end {nn v : Nat} {K : wq_F} (h : pq2 v K) : qe v (dk_76_114 nn K) := by
  unfold dk_76_114
  exact qe_b (qe_84 h) (fun _ _ h => qe_b (qe_78 h) (fun _ _ h => qe_r h))
theorem qe_cf {nn v : Nat} {K : wq_F} (h : pq2 v K) : qe v (cf_76 nn K) := by
  unfold cf_76
  exact qe_b (qe_78 h) (fun _ _ h => qe_b (qe_R _ _ _ _ _ h) (fun _ _ h => qe_i (qe_end h) (qe_b (qe_109 h) (fun _ _ h => qe_end h))))
theorem gm_im {F : wq_F} : gm F (im_0 F) := fun c j q => im_ne (by unfold gmx at q; omega) (by unfold gmx at q; omega)
theorem ge1_rf {nn g : Nat} {v F : wq_F} (h : gm v F) : ge1 v (rf_29 nn g F) := by
  unfold rf_29
  exact ge1_b (ge1_30 h) (fun _ _ h => ge1_b (ge1_31 h) (fun _ _ h => ge1_b (ge1_31 h) (fun _ _ h => ge1_29_134 h)))
theorem ge1_29x {nn g : Nat} {F : wq_F} : ge1 F (dk_29x nn g F) := by
  rw [rf_eq]
  exact ge1_rf gm_im
section
variable {nn : Nat} {T : Nat → Nat} {n M O : Nat} {G0 : wq_F} {c0 : List (List Nat)} {i t w s nw ns np N : Nat} {off voff ph : Nat → Nat} {cx : Nat → List Nat} {c cb : List Nat} {W : List (Nat × Nat × Nat × Nat)} {L : List (Nat × Nat)} {P Q : List (Nat × Nat × Nat)} {ls cs : List (List Nat)} {F G : wq_F}

theorem judge_all {f u : Nat} (hM : tk_M T n M) (hn : 10000 < nn) (hn2 : 14000 < nn) (hO : O ≤ 20000) (h0 : F 0 4 = 0) (h1 : F 1 = T) (h2 : F 0 2 = n) (hrt : rt_ok T n F (M + 1) ls) (hrs : rs_ok F ls) (hl : lsb ls)
    (hls : cs.length ≤ 3000) (hR : cs_ok G cs) (hf : G 2 10 = f) (ht : G 2 11 = u) (hft : f ≤ u) (htl : u ≤ cs.length) (hf1 : f ≤ 1400) (hw : cs_w (cs.take f)) (ho : st_off cs f ≤ O) (hT : ∀ i, i < n → G 1 i = ev_b8 (T i)) (hs : G 56 12 < f ∧ cs.getD (G 56 12) [] = sf_b) (hok : ∀ j, j < 10000 → okj (G 14 j)) :
    wok (dk_76 nn G n) (fun r K => ((∃ D, (∀ s, s < f → D 9 s = if G 9 s = 1 then 1 else 2) ∧ ((∃ i' w' s' nw' ns' np' ls' cs' H c' off' voff' ph', (∃ k, ∀ g, dk_29x nn (g + k) F = some (1, rm_z H)) ∧ (ry T n M i' ls' 0 w' nw' np' [] [] [] H ∧ cy T n D (cs.take f) O i' cs' (s' + 1) ns' np' 1 [] K ∧ bz 1 off' voff' ph' (fun _ => []) c' np' H ls' K cs') ∧ tk_k T n i' = 6 ∧ (st_sf ls ls' ∧ st_pre (cs.take f) cs' ∧ rm_fr F H) ∧ (w' ≤ 6 * i' + 1 ∧ s' ≤ 4 * i' + 1 ∧ nw' ≤ i' ∧ ns' ≤ i' ∧ np' ≤ 50 ∧ hg c' ≤ 2 * i') ∧ r = 0 ∧ K 62 0 = 0 ∧ ∀ (nm : Nat → Nat → Prop) (X : pt → Prop), nmr ls' cs' nm → sg (rm_z H) K nm X (0, 0, 0, [])) ∨
      ∃ e p, r = e ∧ ¬ e = 0 ∧ (∃ k H, (∀ g, dk_29x nn (g + k) F = some (0, H)) ∧ H 0 4 = e ∧ H 0 5 = p ∧ rm_fr F H) ∧ sx T n D (cs.take f) O e p 1 9000 K)) ∧ ∀ c j, c ≤ 1 ∨ (24 ≤ c ∧ c ≤ 55) ∨ 67 ≤ c ∨ (c = 2 ∧ j = 10) ∨ (c = 56 ∧ j = 12) → K c j = G c j) ∧ pq2 n K) := by
  obtain ⟨D, K0, ms, e76, hcy, hpre, hk, hD, hfr⟩ := class_start (n := n) (O := O) (T := T) hn hls hR hf ht hft htl hf1 hw ho hO hM.2.2.2.1 hM.2.2.2.2 hT hs hok
  have hq : pq2 n K0 := ⟨⟨hcy.1.2.2.2.2.2.1.2.2.2.2.1, by rw [hcy.1.2.1.2.1]; exact tk_pos_le hM 0 (Nat.zero_le _)⟩, Or.inl hcy.1.1⟩
  refine wok_q (P := pq2 n) (wok_q (P := fun K => ∀ c j, c ≤ 1 ∨ (24 ≤ c ∧ c ≤ 55) ∨ 67 ≤ c ∨ (c = 2 ∧ j = 10) ∨ (c = 56 ∧ j = 12) → K c j = G c j) (judge_ok hM hn hn2 hO h0 h1 h2 hrt hrs hl hls hR hf ht hft htl hf1 hw ho hT hs hok) (fun x e c j q => ?_)) (fun x e => ?_)
  · rw [e76] at e
    exact (fe_cf (fc_refl K0) x e c j (by unfold fcx; omega)).trans (hfr c j q)
  · rw [e76] at e
    exact qe_cf hq x e
end
