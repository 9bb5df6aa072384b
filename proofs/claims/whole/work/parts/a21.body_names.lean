/-! ===== a21: a body is opened: the names of both sides (wip/whole2/lawa21.py) ===== -/
section
variable {nn : Nat} {T : Nat → Nat} {n M O : Nat} {G0 : wq_F} {c0 : List (List Nat)} {i t w s nw ns np N : Nat} {off voff ph : Nat → Nat} {cx : Nat → List Nat} {c cb : List Nat} {W : List (Nat × Nat × Nat × Nat)} {L : List (Nat × Nat)} {P Q : List (Nat × Nat × Nat)} {ls cs : List (List Nat)} {F G : wq_F}

theorem bz_open {H K : wq_F} {ln ln' : Nat} (hb : bz N off voff ph cx c np F ls G cs) (hN : N < 24) (hnp : np < 50)
    (xF : ∀ d j, ¬ d = 0 → ¬ (20 ≤ d ∧ d ≤ 23 ∧ (j = w ∨ j = w + 1)) → ¬ ((d = 31 ∨ d = 32) ∧ j = N) → ¬ ((d = 12 ∨ (14 ≤ d ∧ d ≤ 17)) ∧ j = np) → H d j = F d j)
    (yL : H 31 N = F 0 50 ∧ H 32 N = np) (yP : H 12 np = w + 1 ∧ H 14 np = 0 ∧ H 15 np = 0 ∧ H 16 np = 0 ∧ H 17 np = ln) (y0 : H 0 53 = N ∧ H 0 50 = F 0 50)
    (xG : ∀ d j, ¬ ((17 ≤ d ∧ d ≤ 22) ∧ j = np) → ¬ (d = 11 ∧ (j = 14 ∨ j = 4)) → ¬ (12 ≤ d ∧ d ≤ 15 ∧ j = s) → ¬ ((62 ≤ d ∧ d ≤ 65) ∧ j = N) → ¬ (d = 59 ∧ j = 8) → K d j = G d j)
    (zP : K 17 np = s + 1 ∧ K 18 np = 0 ∧ K 19 np = 0 ∧ K 20 np = 0 ∧ K 21 np = ln' ∧ K 22 np = 0) (zL : K 59 8 = N ∧ K 62 N = np ∧ K 63 N = G 59 3 ∧ K 64 N = 0 ∧ K 65 N = 4294967294) :
    bz (N + 1) (at_N off (N + 1) (off N)) (at_N voff (N + 1) (voff N)) ph (cxf cx N c) [] (np + 1) H ls K cs := by
  obtain ⟨b1, b2, b3, b4, b5, b6, b7, b8⟩ := hb
  obtain ⟨n1, n2, n3, n4, n5, n6, n7, n8, n9⟩ := b1.1
  obtain ⟨yP1, yP2, yP3, yP4, yP5⟩ := yP
  obtain ⟨zP1, zP2, zP3, zP4, zP5, zP6⟩ := zP
  obtain ⟨zL1, zL2, zL3, zL4, zL5⟩ := zL
  have en := sc_enter b1 b2 b3 hN hnp b6 (F1 := H) (G1 := K)
    ⟨y0.1, y0.2.trans n8, fun d hd => funext fun j => xF d j (by omega) (by omega) (by omega) (by omega), fun j hj => ⟨xF 14 j (by omega) (by omega) (by omega) (by omega), xF 15 j (by omega) (by omega) (by omega) (by omega)⟩, yP2, yP3, fun j hj => ⟨xF 31 j (by omega) (by omega) (by omega) (by omega), xF 32 j (by omega) (by omega) (by omega) (by omega)⟩, yL.1.trans n8, yL.2⟩
    ⟨zL1, (xG 59 3 (by omega) (by omega) (by omega) (by omega) (by omega)).trans n7, fun d hd => funext fun j => xG d j (by omega) (by omega) (by omega) (by omega) (by omega), fun j hj => ⟨xG 19 j (by omega) (by omega) (by omega) (by omega) (by omega), xG 20 j (by omega) (by omega) (by omega) (by omega) (by omega)⟩, zP3, zP4, fun j hj => ⟨xG 62 j (by omega) (by omega) (by omega) (by omega) (by omega), xG 63 j (by omega) (by omega) (by omega) (by omega) (by omega)⟩, zL2, zL3.trans n7⟩
  have top : cxf (cxf cx N c) (N + 1) [] N = [] := cxf_t rfl
  have low : ∀ l, l < N → cxf (cxf cx N c) (N + 1) [] l = cxf cx N c l := fun l hl => cxf_f (by omega)
  have g62 : ∀ l, l < N → K 62 l = G 62 l := fun l hl => xG 62 l (by omega) (by omega) (by omega) (by omega) (by omega)
  refine ⟨en.1, en.2.1, en.2.2, fun l hl => ?_, fun l k hl h1 h2 => ?_, fun l hl => ?_, fun l hl => ?_, b8⟩
  · by_cases q : l = N
    · rw [q, top, zL4]
      rfl
    · rw [low l (by omega), xG 64 l (by omega) (by omega) (by omega) (by omega) (by omega)]
      exact b4 l (by omega)
  · by_cases q : l = N
    · rw [q, at_N_ne (by omega)] at h1
      rw [q, at_N_is] at h2
      omega
    · rw [at_N_ne (by omega)] at h1 h2
      rw [low l (by omega), xG 61 _ (by omega) (by omega) (by omega) (by omega) (by omega), xF 30 k (by omega) (by omega) (by omega) (by omega)]
      exact b5 l k (by omega) h1 h2
  · by_cases q : l = N
    · rw [q, zL2]
      omega
    · rw [g62 l (by omega)]
      exact Nat.lt_succ_of_lt (b6 l (by omega))
  · by_cases q : l = N
    · rw [q, zL2, top]
      exact ⟨yP4.trans zP6.symm, fun e he => absurd he (List.not_mem_nil)⟩
    · have hl2 : l < N := by omega
      have h6 := b6 l hl2
      rw [g62 l hl2, low l hl2, xF 16 (G 62 l) (by omega) (by omega) (by omega) (by omega), xG 22 (G 62 l) (by omega) (by omega) (by omega) (by omega) (by omega), xF 14 (G 62 l) (by omega) (by omega) (by omega) (by omega)]
      exact b7 l hl2
end
