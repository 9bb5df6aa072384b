/-! ===== a25: names by other counts that agree (wip/whole2/lawa25.py) ===== -/
theorem sc_ext {N : Nat} {off voff ph off' voff' ph' : Nat → Nat} {F G : wq_F} {ls cs : List (List Nat)} (h : sc_ok N off voff ph F ls G cs) (eo : ∀ l, l ≤ N → off' l = off l) (ev : ∀ l, l ≤ N → voff' l = voff l) (ep : ∀ k, k < voff N → ph' k = ph k) : sc_ok N off' voff' ph' F ls G cs := by
  obtain ⟨⟨n1, n2, n3, n4, n5, n6, n7, n8, n9⟩, s2, s3, s4, s5, s6, s7, s8⟩ := h
  have eN := eo N (Nat.le_refl _)
  have vN := ev N (Nat.le_refl _)
  refine ⟨⟨n1, n2, n3, n4, by rw [eo 0 (by omega)]; exact n5, by rw [ev 0 (by omega)]; exact n6, by rw [eN]; exact n7, by rw [vN]; exact n8, by rw [eN]; exact n9⟩, fun l hl => ?_, fun k hk => ?_, fun j k a b => ?_, fun i hi z => ?_, fun l k hl hk => ?_, fun l j k hl a b d => ?_, s8⟩
  · rw [eo l (by omega), eo (l + 1) (by omega), ev l (by omega), ev (l + 1) (by omega)]
    exact s2 l hl
  · rw [vN] at hk
    rw [ep k hk, eN]
    exact s3 k hk
  · rw [vN] at b
    rw [ep k b, ep j (by omega)]
    exact s4 j k a b
  · rw [eN] at hi
    obtain ⟨k, k1, k2⟩ := s5 i hi z
    exact ⟨k, by rw [vN]; exact k1, (ep k k1).trans k2⟩
  · rw [vN] at hk
    rw [ep k hk, eo l (by omega), eo (l + 1) (by omega), ev l (by omega), ev (l + 1) (by omega)]
    exact s6 l k hl hk
  · rw [ev l (by omega)] at a
    rw [ev (l + 1) (by omega)] at d
    exact s7 l j k hl a b d
theorem ll_ext {N : Nat} {off voff off' voff' : Nat → Nat} {F G : wq_F} (h : ll_ok N off voff F G) (eo : ∀ l, l ≤ N → off' l = off l) (ev : ∀ l, l ≤ N → voff' l = voff l) : ll_ok N off' voff' F G := fun l hl => by
  have z := h l hl
  rw [eo l (by omega), eo (l + 1) (by omega), ev l (by omega), ev (l + 1) (by omega)]
  exact z
