/-! ===== a25: names by other counts that agree (wip/whole2/lawa25.py) ===== -/
theorem sc_ext {N : Nat} {off voff ph off' voff' ph' : Nat → Nat} {F G : wq_F} {ls cs : List (List Nat)} (h : sc_ok N off voff ph F ls G cs) (eo : ∀ l, l ≤ N → off' l = off l) (ev : ∀ l, l ≤ N → voff' l = voff l) (ep : ∀ k, k < voff N → ph' k = ph k) : sc_ok N off' voff' ph' F ls G cs := by
  obtain ⟨⟨n1, n2, n3, n4, n5, n6, n7, n8, n9⟩, s2, s3, s4, s5, s6, s7, s8⟩ := h
  have eN := eo N (Nat.le_refl _)
  have vN := ev N (Nat.le_refl _)
  refine ⟨⟨n1, n2, n3, n4, by rw [eo 0 (by omega)]; exact n5, by rw [ev 0 (by omega)]; exact n6, by rw [eN]; exact n7, by rw [vN]; exact n8, by rw [eN]; exact n9⟩, fun l hl => ?_, fun k hk => ?_, fun j k a b => ?_, fun i hi z => ?_, fun l k hl hk => ?_, fun l j k hl a b d => ?_, s8⟩
  · rw [eo l (by omega), eo (l + 1) (by omega), ev l (by omega), ev (l + 1) (by omega)]
    exact s2 l hl
  · rw [vN] at hk
    rw [ep k hk, eN]
    exact s3 k hk
  · rw [vN] at b
    rw [ep k b, ep j (by omega)]
    exact s4 j k a b
  · rw [eN] at hi
    obtain ⟨k, k1, k2⟩ := s5 i hi z
    exact ⟨k, by rw [vN]; exact k1, (ep k k1).trans k2⟩
  · rw [vN] at hk
    rw [ep k hk, eo l (by omega), eo (l + 1) (by omega), ev l (by omega), ev (l + 1) (by omega)]
    exact s6 l k hl hk
  · rw [ev l (by omega)] at a
    rw [ev (l + 1) (by omega)] at d
    exact s7 l j k hl a b d
theorem ll_ext {N : Nat} {off voff off' voff' : Nat → Nat} {F G : wq_F} (h : ll_ok N off voff F G) (eo : ∀ l, l ≤ N → off' l = off l) (ev : ∀ l, l ≤ N → voff' l = voff l) : ll_ok N off' voff' F G := fun l hl => by
  have z := h l hl
  rw [eo l (by omega), eo (l + 1) (by omega), ev l (by omega), ev (l + 1) (by omega)]
  exact z
theorem cp_ext {N : Nat} {off voff ph off' voff' ph' : Nat → Nat} {F G : wq_F} {cs : List (List Nat)} (h : cp_ok N off voff ph F G cs) (eo : ∀ l, l ≤ N → off' l = off l) (ev : ∀ l, l ≤ N → voff' l = voff l) (ep : ∀ k, k < voff N → ph' k = ph k) (hm : ∀ l, l < N → voff l ≤ voff (l + 1)) : cp_ok N off' voff' ph' F G cs := ⟨h.1, fun l hl => by
  have z := h.2 l hl
  have vc : ∀ a, sc_vc off' G l a = sc_vc off G l a := fun a => by
    unfold sc_vc
    rw [eo l (by omega), eo (l + 1) (by omega)]
  have vm : voff (l + 1) ≤ voff N := sc_mono hm (by omega) (Nat.le_refl _)
  unfold cp_at at z ⊢
  refine ⟨z.1, z.2.1, z.2.2.1, fun k hk => ?_⟩
  obtain ⟨d1, d2, d3⟩ := z.2.2.2 k hk
  rw [vc]
  refine ⟨d1, fun i hi => ?_, d3⟩
  obtain ⟨k0, x1, x2, x3, x4⟩ := d2 i hi
  exact ⟨k0, by rw [ev l (by omega)]; exact x1, by rw [ev (l + 1) (by omega)]; exact x2, by rw [ep k0 (by omega)]; exact x3, x4⟩⟩
section
variable {nn : Nat} {T : Nat → Nat} {n M O : Nat} {G0 : wq_F} {c0 : List (List Nat)} {i t w s nw ns np N : Nat} {off voff ph : Nat → Nat} {cx : Nat → List Nat} {c cb : List Nat} {W : List (Nat × Nat × Nat × Nat)} {L : List (Nat × Nat)} {P Q : List (Nat × Nat × Nat)} {ls cs : List (List Nat)} {F G : wq_F}

theorem bz_leave {offi voffi phi : Nat → Nat} {cxi : Nat → List Nat} {ce : List Nat} {H K : wq_F} (hb : bz (N + 1) offi voffi phi cxi ce np F ls G cs) (hN : 1 ≤ N) (eo : ∀ l, l ≤ N → off l = offi l) (ev : ∀ l, l ≤ N → voff l = voffi l) (ep : ∀ k, k < voffi N → ph k = phi k) (ex : ∀ l, l < N → cxi l = cxf cx N c l) (hF : H 0 53 + 1 = N ∧ H 0 50 = voffi N ∧ (∀ d, d = 14 ∨ d = 15 ∨ d = 16 ∨ d = 18 ∨ d = 19 ∨ (29 ≤ d ∧ d ≤ 32) → H d = F d)) (hG : K 59 8 + 1 = N ∧ K 59 3 = offi N ∧ (∀ d, d = 19 ∨ d = 20 ∨ d = 22 ∨ d = 23 ∨ (60 ≤ d ∧ d ≤ 63) ∨ d = 66 → K d = G d)) (h64 : ∀ l, l < N → K 64 l = G 64 l) : bz N off voff ph cx c np H ls K cs := by
  obtain ⟨b1, b2, b3, b4, b5, b6, b7, b8⟩ := hb
  have lv := sc_leave (F1 := H) (G1 := K) b1 b2 b3 hN ⟨hF.1, hF.2.1, fun d hd => hF.2.2 d (by omega)⟩ ⟨hG.1, hG.2.1, fun d hd => hG.2.2 d (by omega)⟩
  have low : ∀ l, l < N → cxf cxi (N + 1) ce l = cxf cx N c l := fun l hl => (cxf_f (by omega)).trans (ex l hl)
  have hm : ∀ l, l < N → voffi l ≤ voffi (l + 1) := fun l hl => (b1.2.1 l (by omega)).2.1
  refine ⟨sc_ext lv.1 eo ev ep, cp_ext lv.2.1 eo ev ep hm, ll_ext lv.2.2 eo ev, fun l hl => ?_, fun l k hl h1 h2 => ?_, fun l hl => ?_, fun l hl => ?_, b8⟩
  · rw [h64 l hl, ← low l hl]
    exact b4 l (by omega)
  · rw [ev l (by omega)] at h1
    rw [ev (l + 1) (by omega)] at h2
    have vm : voffi (l + 1) ≤ voffi N := sc_mono hm (by omega) (Nat.le_refl _)
    rw [ep k (by omega), hG.2.2 61 (by decide), hF.2.2 30 (by decide), ← low l hl]
    exact b5 l k (by omega) h1 h2
  · rw [hG.2.2 62 (by decide)]
    exact b6 l (by omega)
  · rw [hG.2.2 62 (by decide), hF.2.2 16 (by decide), hG.2.2 22 (by decide), hF.2.2 14 (by decide), ← low l hl]
    exact b7 l (by omega)
end
