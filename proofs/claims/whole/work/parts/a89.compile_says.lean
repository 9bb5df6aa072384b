/-! ===== a89: compile refused, as contracts of the two machines (wip/whole2/lawa89.py) ===== -/
theorem dk_48_x {n : Nat} {G : wq_F} {x : Nat × wq_F} (h : dk_48 n G = some x) : dk_48x n G = some x := by
  unfold dk_48 at h
  unfold dk_48x
  cases e1 : dk_49 G with
  | none =>
    rw [e1] at h
    exact nomatch (show (none : Option (Nat × wq_F)) = some x from h)
  | some y1 =>
    rw [e1, od_bS] at h
    rw [od_bS]
    cases e2 : dk_76 n y1.2 (y1.2 0 8) with
    | none =>
      rw [e2] at h
      exact nomatch (show (none : Option (Nat × wq_F)) = some x from h)
    | some y5 =>
      rw [e2, od_bS] at h
      rw [od_bS]
      by_cases q : y5.1 = 0
      · rw [if_pos q, od_upS, od_upS, od_upS] at h
        exact nomatch h
      · rw [if_neg q] at h
        rw [if_neg q]
        exact h
/-- compile of both, in any good state: both read it alike (then the machines' reset is to come), or both refuse it with the same number, place and line, and both are good again -/
theorem compile_says {nn n O f sfi bm op : Nat} {T : Nat → Nat} {F G : wq_F} {b br : List (List Nat)} (hn : 14000 < nn) (hn6 : n ≤ 6000) (hC : ∀ i, i < n → T i < 256) (hcf : cfix f O sfi b) (hrf : rfix bm op O br) (hcg : cgood f sfi b G) (hrg : rgood bm op br F) (hT : ∀ i, i < n → G 1 i = ev_b8 (T i)) (hGn : G 0 8 = n) (hF1 : F 1 = T) (hF2 : F 0 2 = n) (hxT : xm_T G) (hwT : wm_T F) :
    (∃ r K, dk_76 nn (wq_up G 0 9 0) n = some (r, K) ∧ (∃ M A ms D, tk_M T n M ∧ rt_ok T n A (M + 1) ms ∧ (∀ s, s < f → D 9 s = if G 9 s = 1 then 1 else 2) ∧ (∃ i' w' s' nw' ns' np' ls' cs' H c' off' voff' ph', (∃ k, ∀ g, dk_24x nn (g + k) F = (dk_38 nn (wq_up (wq_up (wq_up (rm_z H) 0 15 (rm_z H 0 14)) 0 16 (wq_up (rm_z H) 0 15 (rm_z H 0 14) 0 8)) 0 3 1)).bind fun y23 => some (y23.2 0 34, y23.2)) ∧ (ry T n M i' ls' 0 w' nw' np' [] [] [] H ∧ cy T n D (b) O i' cs' (s' + 1) ns' np' 1 [] K ∧ bz 1 off' voff' ph' (fun _ => []) c' np' H ls' K cs') ∧ tk_k T n i' = 6 ∧ (st_sf ms ls' ∧ st_pre (b) cs' ∧ rm_fr A H) ∧ (w' ≤ 6 * i' + 1 ∧ s' ≤ 4 * i' + 1 ∧ nw' ≤ i' ∧ ns' ≤ i' ∧ np' ≤ 50 ∧ hg c' ≤ 2 * i') ∧ r = 0 ∧ K 62 0 = 0 ∧ ∀ (nm : Nat → Nat → Prop) (X : pt → Prop), nmr ls' cs' nm → sg (rm_z H) K nm X (0, 0, 0, [])))) ∨
      ∃ e p K H, ¬ e = 0 ∧ p ≤ n ∧ (∀ d, mq (d + nn + 13 + 1) 48 [36893488147419103232] xm_sh G (wkI xm_T xm_sh (ev_oNeg e, K))) ∧ (∀ d, mq (d + 8 + 1) 24 [36893488147419103232] wm_sh F (wkI wm_T wm_sh (ev_oNeg e, H))) ∧ cgood f sfi b K ∧ rgood bm op br H ∧ (K 0 9 = 0 ∧ K 0 10 = p ∧ K 0 11 = 1 + lc T p) ∧ (H 0 4 = e ∧ H 0 5 = p ∧ H 0 6 = 1 + lc T p) := by
  obtain ⟨r, K, e76, hfr, hh⟩ := compile_both hn hn6 hC hcf hrf hcg hrg hT hGn hF1 hF2
  rcases hh with hg1 | ⟨e, p, H, k, h1, h2, h3, h4, h5, h6, h7, h8, _, _⟩
  · exact Or.inl ⟨r, K, e76, hg1⟩
  · refine Or.inr ⟨e, p, _, _, h1, h2, fun d => dkT_48x hxT (dk_48_x h3), fun d => dkT_24x hwT (h5 0), h4, h6, ⟨?_, ?_, wq_up_same _ _ _ _⟩, ⟨?_, ?_, wq_up_same _ _ _ _⟩⟩
    · rw [wq_up_at (by decide), wq_up_at (by decide), hfr 0 9 (by omega), wq_up_same]
    · rw [wq_up_at (by decide), wq_up_same]
    · rw [wq_up_at (by decide)]
      exact h7
    · rw [wq_up_at (by decide)]
      exact h8
