/-! ===== 99f: a function's level entered and left (wip/whole2/99f.txt) ===== -/
theorem sc_enter {N f : Nat} {off voff ph : Nat → Nat} {F F1 G G1 : wq_F} {ls cs : List (List Nat)} (hs : sc_ok N off voff ph F ls G cs) (hc : cp_ok N off voff ph F G cs) (hl : ll_ok N off voff F G) (hN : N < 24) (hf : f < 50) (hfd : ∀ l, l < N → G 62 l < f)
    (hF : F1 0 53 = N ∧ F1 0 50 = voff N ∧ (∀ c, c = 18 ∨ c = 19 ∨ c = 29 ∨ c = 30 → F1 c = F c) ∧ (∀ i, i ≠ f → F1 14 i = F 14 i ∧ F1 15 i = F 15 i) ∧ F1 14 f = 0 ∧ F1 15 f = 0 ∧ (∀ i, i ≠ N → F1 31 i = F 31 i ∧ F1 32 i = F 32 i) ∧ F1 31 N = voff N ∧ F1 32 N = f)
    (hG : G1 59 8 = N ∧ G1 59 3 = off N ∧ (∀ c, c = 23 ∨ c = 60 ∨ c = 61 ∨ c = 66 → G1 c = G c) ∧ (∀ i, i ≠ f → G1 19 i = G 19 i ∧ G1 20 i = G 20 i) ∧ G1 19 f = 0 ∧ G1 20 f = 0 ∧ (∀ i, i ≠ N → G1 62 i = G 62 i ∧ G1 63 i = G 63 i) ∧ G1 62 N = f ∧ G1 63 N = off N) :
    sc_ok (N + 1) (at_N off (N + 1) (off N)) (at_N voff (N + 1) (voff N)) ph F1 ls G1 cs ∧ cp_ok (N + 1) (at_N off (N + 1) (off N)) (at_N voff (N + 1) (voff N)) ph F1 G1 cs ∧ ll_ok (N + 1) (at_N off (N + 1) (off N)) (at_N voff (N + 1) (voff N)) F1 G1 := by
  obtain ⟨s1, s2, s3, s4, s5, s6, s7, s8⟩ := hs
  obtain ⟨f1, f2, f3, f4, f5, f6, f7, f8, f9⟩ := hF
  obtain ⟨g1, g2, g3, g4, g5, g6, g7, g8, g9⟩ := hG
  have oL : ∀ l, l ≤ N → at_N off (N + 1) (off N) l = off l := fun l hl => at_N_ne (by omega)
  have oN : at_N off (N + 1) (off N) (N + 1) = off N := at_N_is
  have vL : ∀ l, l ≤ N → at_N voff (N + 1) (voff N) l = voff l := fun l hl => at_N_ne (by omega)
  have vN : at_N voff (N + 1) (voff N) (N + 1) = voff N := at_N_is
  generalize at_N off (N + 1) (off N) = o1 at *
  generalize at_N voff (N + 1) (voff N) = v1 at *
  have G60 := g3 60 (by decide)
  have G61 := g3 61 (by decide)
  refine ⟨⟨?_, fun l hl => ?_, fun k hk => ?_, fun j k hj hk => ?_, fun i hi hv => ?_, fun l k hl hk => ?_, fun l j k hl h1 h2 h3 => ?_, fun l k h1 h2 => ?_⟩, ⟨?_, fun l hl2 => ?_⟩, fun l hl2 => ?_⟩
  · rw [f1, f2, g1, g2, oN, vN, oL 0 (by omega), vL 0 (by omega)]
    exact ⟨by omega, by omega, rfl, rfl, s1.2.2.2.2.1, s1.2.2.2.2.2.1, rfl, rfl, s1.2.2.2.2.2.2.2.2⟩
  · by_cases e : l = N
    · subst e
      rw [oN, vN, oL l (Nat.le_refl _), vL l (Nat.le_refl _), g9, f8, f9, g8]
      exact ⟨Nat.le_refl _, Nat.le_refl _, rfl, rfl, rfl, hf⟩
    · rw [oL l (by omega), oL (l + 1) (by omega), vL l (by omega), vL (l + 1) (by omega), (g7 l e).2, (f7 l e).1, (f7 l e).2, (g7 l e).1]
      exact s2 l (by omega)
  · rw [vN] at hk
    rw [oN, G61, f3 29 (by decide), G60]
    exact s3 k hk
  · rw [vN] at hk
    exact s4 j k hj hk
  · rw [oN] at hi
    rw [G61] at hv
    rw [vN]
    exact s5 i hi hv
  · rw [vN] at hk
    by_cases e : l = N
    · subst e
      rw [oN, vN, oL l (Nat.le_refl _), vL l (Nat.le_refl _)]
      have := (s3 k hk).1
      omega
    · rw [oL l (by omega), oL (l + 1) (by omega), vL l (by omega), vL (l + 1) (by omega)]
      exact s6 l k (by omega) hk
  · by_cases e : l = N
    · subst e
      rw [vN] at h3
      rw [vL l (Nat.le_refl _)] at h1
      omega
    · rw [vL l (by omega)] at h1
      rw [vL (l + 1) (by omega)] at h3
      rw [f3 30 (by decide)]
      exact s7 l j k (by omega) h1 h2 h3
  · by_cases e : k = N
    · rw [e, g8, (g7 l (by omega)).1]
      exact hfd l (by omega)
    · rw [(g7 l (by omega)).1, (g7 k e).1]
      exact s8 l k h1 (by omega)
  · have h0 := hfd 0 (by omega)
    rw [(g7 0 (by omega)).1, (f4 _ (by omega)).2, (g4 _ (by omega)).2]
    exact hc.1
  · have vc : ∀ b, sc_vc o1 G1 l b = sc_vc off G l b := fun b => sc_vc_in ⟨oL l (by omega), oL (l + 1) (by omega)⟩ (fun i hi => ⟨by rw [G60], by rw [G61]⟩)
    by_cases e : l + 1 = N
    · unfold cp_at
      rw [e, g8, g6, f6]
      exact ⟨rfl, by decide, fun j k _ h => absurd h (Nat.not_lt_zero _), fun k h => absurd h (Nat.not_lt_zero _)⟩
    · have h1 := hfd (l + 1) (by omega)
      have h0 := hfd l (by omega)
      have hcl := hc.2 l (by omega)
      unfold cp_at at hcl ⊢
      rw [(g7 (l + 1) e).1, (g7 l (by omega)).1, (f4 _ (show G 62 (l + 1) ≠ f by omega)).2, (g4 _ (show G 62 (l + 1) ≠ f by omega)).2, (g4 _ (show G 62 l ≠ f by omega)).2, f3 18 (by decide), f3 19 (by decide), f3 30 (by decide), g3 66 (by decide), g3 23 (by decide), G61, vL l (by omega), vL (l + 1) (by omega)]
      refine ⟨hcl.1, hcl.2.1, hcl.2.2.1, fun k hk => ?_⟩
      obtain ⟨d1, d2, d3⟩ := hcl.2.2.2 k hk
      rw [vc]
      exact ⟨d1, d2, d3⟩
  · by_cases e : l = N
    · subst e
      rw [g8, f5, g5, oN, vN, oL l (Nat.le_refl _), vL l (Nat.le_refl _)]
      exact ⟨rfl, by decide, by omega, fun k h1 h2 => by omega⟩
    · have h0 := hfd l (by omega)
      rw [(g7 l e).1, (f4 _ (show G 62 l ≠ f by omega)).1, (g4 _ (show G 62 l ≠ f by omega)).1, oL l (by omega), oL (l + 1) (by omega), vL l (by omega), vL (l + 1) (by omega), f3 30 (by decide)]
      exact hl l (by omega)
theorem sc_leave {N : Nat} {off voff ph : Nat → Nat} {F F1 G G1 : wq_F} {ls cs : List (List Nat)} (hs : sc_ok (N + 1) off voff ph F ls G cs) (hc : cp_ok (N + 1) off voff ph F G cs) (hl : ll_ok (N + 1) off voff F G) (hN : 1 ≤ N)
    (hF : F1 0 53 + 1 = N ∧ F1 0 50 = voff N ∧ (∀ c, c = 14 ∨ c = 15 ∨ c = 18 ∨ c = 19 ∨ c = 29 ∨ c = 30 ∨ c = 31 ∨ c = 32 → F1 c = F c))
    (hG : G1 59 8 + 1 = N ∧ G1 59 3 = off N ∧ (∀ c, c = 19 ∨ c = 20 ∨ c = 23 ∨ c = 60 ∨ c = 61 ∨ c = 62 ∨ c = 63 ∨ c = 66 → G1 c = G c)) :
    sc_ok N off voff ph F1 ls G1 cs ∧ cp_ok N off voff ph F1 G1 cs ∧ ll_ok N off voff F1 G1 := by
  obtain ⟨s1, s2, s3, s4, s5, s6, s7, s8⟩ := hs
  obtain ⟨f1, f2, f3⟩ := hF
  obtain ⟨g1, g2, g3⟩ := hG
  have G60 := g3 60 (by decide)
  have G61 := g3 61 (by decide)
  have G62 := g3 62 (by decide)
  have hsN := s2 N (Nat.lt_succ_self _)
  have hv : ∀ k, k < voff N → k < voff (N + 1) := fun k hk => by omega
  have hin : ∀ k, k < voff N → ph k < off N := fun k hk => by
    have h1 := s6 N k (Nat.lt_succ_self _) (hv k hk)
    have h2 := (s3 k (hv k hk)).1
    omega
  refine ⟨⟨?_, fun l hl => ?_, fun k hk => ?_, fun j k hj hk => s4 j k hj (hv k hk), fun i hi hz => ?_, fun l k hl hk => s6 l k (by omega) (hv k hk), fun l j k hl h1 h2 h3 => ?_, fun l k h1 h2 => ?_⟩, ?_, fun l hl2 => ?_⟩
  · exact ⟨hN, by omega, f1, g1, s1.2.2.2.2.1, s1.2.2.2.2.2.1, g2, f2, by have := s1.2.2.2.2.2.2.2.2; omega⟩
  · rw [g3 63 (by decide), f3 31 (by decide), f3 32 (by decide), G62]
    exact s2 l (by omega)
  · rw [G61, f3 29 (by decide), G60]
    obtain ⟨a1, a2, a3, a4, a5⟩ := s3 k (hv k hk)
    exact ⟨hin k hk, a2, a3, a4, a5⟩
  · rw [G61] at hz
    obtain ⟨k, k1, k2⟩ := s5 i (by omega) hz
    refine ⟨k, ?_, k2⟩
    have h1 := s6 N k (Nat.lt_succ_self _) k1
    omega
  · rw [f3 30 (by decide)]
    exact s7 l j k (by omega) h1 h2 h3
  · rw [G62]
    exact s8 l k h1 (by omega)
  · have h := cp_ok_up (F1 := F1) (G1 := G1) hc ⟨f3 15 (by decide), f3 18 (by decide), f3 19 (by decide), f3 30 (by decide)⟩ ⟨g3 20 (by decide), g3 23 (by decide), G60, G61, G62, g3 66 (by decide)⟩ (Nat.le_refl _)
    exact ⟨h.1, fun l hl => h.2 l (by omega)⟩
  · rw [f3 14 (by decide), f3 30 (by decide), G62, g3 19 (by decide)]
    exact hl l (by omega)
