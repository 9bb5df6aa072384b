/-! ===== a23: the pair of words of a body (wip/whole2/lawa23.py) ===== -/
theorem pj_fun {ls cs : List (List Nat)} {lv lvi : Nat → Prop} {f : Nat} {cb cbi : List Nat} {A B A2 B2 A3 B3 A' B' : wq_F} {w s nw ns np w3 s3 nw' ns' np' : Nat} {c cp ce : List Nat}
    (hin : pj ls cs lvi np cbi A2 B2 (w + 2) (s + 2) nw ns (np + 1) cp A3 B3 w3 s3 nw' ns' np' ce [] []) (hka : ka A A' w nw np lv) (hkb : kb B B' s ns np lv)
    (hw : A' 20 w = 21 ∧ A' 21 w = w3 + 2 ∧ A' 20 (w + 1) = 0 ∧ A' 20 w3 = 14 ∧ A' 20 (w3 + 1) = 38 ∧ A' 20 (w3 + 2) = 25 ∧ A' 21 (w3 + 2) = np)
    (hs : B' 12 s = 18 ∧ B' 13 s = np ∧ B' 14 s = s3 + 1 ∧ B' 12 (s + 1) = 0 ∧ B' 12 s3 = 20 ∧ B' 13 s3 = hg ce)
    (mA : ∀ d j, 20 ≤ d → d ≤ 23 → w + 2 ≤ j → j < w3 → A' d j = A3 d j) (mA2 : ∀ k, nw ≤ k → k < nw' → A' 24 k = A3 24 k) (mA3 : ∀ g, np + 1 ≤ g → g < np' → (A' 12 g = A3 12 g ∧ A' 13 g = A3 13 g ∧ A' 15 g = A3 15 g ∧ A' 16 g = A3 16 g) ∧ ∀ k, k < 30 → A' 18 (30 * g + k) = A3 18 (30 * g + k) ∧ A' 19 (30 * g + k) = A3 19 (30 * g + k)) (mA4 : A3 15 np ≤ A' 15 np)
    (mB : ∀ d j, 12 ≤ d → d ≤ 15 → s + 2 ≤ j → j < s3 → B' d j = B3 d j) (mB2 : ∀ k, ns ≤ k → k < ns' → B' 16 k = B3 16 k) (mB3 : ∀ g, np + 1 ≤ g → g < np' → (B' 17 g = B3 17 g ∧ B' 18 g = B3 18 g ∧ B' 20 g = B3 20 g ∧ B' 22 g = B3 22 g) ∧ ∀ k, k < 30 → B' 23 (30 * g + k) = B3 23 (30 * g + k))
    (hP : np < 50 ∧ A' 12 np = w + 1 ∧ B' 17 np = s + 1 ∧ A' 13 np = B' 18 np ∧ B' 18 np ≤ 50 ∧ A' 16 np = B' 22 np ∧ A' 15 np = B' 20 np ∧ B' 20 np ≤ 30) (hcp : cp = lcs 0 (B' 18 np))
    (hcap : ∀ j, j < A' 15 np → (A' 18 (30 * np + j) = 1 ∧ cx_at c (B' 23 (30 * np + j)) (A' 19 (30 * np + j))) ∨ (A' 18 (30 * np + j) = 0 ∧ A' 19 (30 * np + j) < A' 15 f ∧ B' 23 (30 * np + j) = 4294967295 - A' 19 (30 * np + j))) :
    pj ls cs lv f cb A B w s nw ns np c A' B' (w3 + 3) (s3 + 1) nw' ns' np' (0 :: c) [] [] := by
  obtain ⟨⟨l1, l2, l3, l4, l5⟩, _, _, _, hsg⟩ := hin
  obtain ⟨w1, w2, w4, w5, w6, w7, w8⟩ := hw
  obtain ⟨s1, s2, s4, s5, s6, s7⟩ := hs
  obtain ⟨p1, p2, p3, p4, p5, p6, p7, p8⟩ := hP
  refine ⟨⟨by omega, by omega, l3, l4, by omega⟩, hka, hkb, ⟨fun j hj => absurd hj (List.not_mem_nil), fun j hj => absurd hj (List.not_mem_nil)⟩, fun H J nm X wb sb e1 e2 e3 _ _ e6 => ?_⟩
  rw [jl_nil] at e1 e2
  obtain ⟨g1, g2, g3, g4⟩ := e1
  obtain ⟨k1, k2, k3⟩ := e2
  obtain ⟨⟨a12, a13, a15, a16⟩, acap⟩ := g3 np (Nat.le_refl _) (by omega)
  obtain ⟨⟨b17, b18, b20, b22⟩, bcap⟩ := k3 np (Nat.le_refl _) (by omega)
  -- the end
  have en : sg H J nm X (np, w3, s3, ce) := by
    refine sg_s (l := [(np, w3 + 1, s3, 1 :: ce)]) (Or.inl ⟨13, (g1 20 w3 (by decide) (by decide) (by omega) (by omega)).trans w5, rfl⟩) (fun v hv => ?_)
    rw [List.mem_singleton.mp hv]
    exact sg_s (l := []) (Or.inr ⟨13, (g1 20 (w3 + 1) (by decide) (by decide) (by omega) (by omega)).trans w6, (k1 12 s3 (by decide) (by decide) (by omega) (by omega)).trans s6, ce, rfl, (k1 13 s3 (by decide) (by decide) (by omega) (by omega)).trans s7, rfl⟩) (fun v hv => absurd hv (List.not_mem_nil))
  -- the block
  have bl : sg H J nm X (np, w + 2, s + 2, cp) := by
    refine hsg H J nm X 0 0 ?_ ?_ e3 (fun j hj => absurd hj (List.not_mem_nil)) (fun z => absurd rfl z) en
    · rw [jl_nil]
      refine ⟨fun d j x1 x2 x3 x4 => (g1 d j x1 x2 (by omega) (by omega)).trans (mA d j x1 x2 x3 x4), fun k x1 x2 => (g2 k x1 x2).trans (mA2 k x1 x2), fun g x1 x2 => ?_, by rw [a15]; exact mA4⟩
      obtain ⟨⟨u1, u2, u3, u4⟩, u5⟩ := g3 g (by omega) x2
      obtain ⟨⟨v1, v2, v3, v4⟩, v5⟩ := mA3 g x1 x2
      exact ⟨⟨u1.trans v1, u2.trans v2, u3.trans v3, u4.trans v4⟩, fun k hk => ⟨(u5 k hk).1.trans (v5 k hk).1, (u5 k hk).2.trans (v5 k hk).2⟩⟩
    · rw [jl_nil]
      refine ⟨fun d j x1 x2 x3 x4 => (k1 d j x1 x2 (by omega) (by omega)).trans (mB d j x1 x2 x3 x4), fun k x1 x2 => (k2 k x1 x2).trans (mB2 k x1 x2), fun g x1 x2 => ?_⟩
      obtain ⟨⟨u1, u2, u3, u4⟩, u5⟩ := k3 g (by omega) x2
      obtain ⟨⟨v1, v2, v3, v4⟩, v5⟩ := mB3 g x1 x2
      exact ⟨⟨u1.trans v1, u2.trans v2, u3.trans v3, u4.trans v4⟩, fun k hk => (u5 k hk).trans (v5 k hk)⟩
  have st : sg H J nm X (np, w + 1, s + 1, cp) := by
    refine sg_s (l := [(np, w + 1 + 1, s + 1 + 1, cp)]) (Or.inl ⟨0, (g1 20 (w + 1) (by decide) (by decide) (by omega) (by omega)).trans w4, (k1 12 (s + 1) (by decide) (by decide) (by omega) (by omega)).trans s5, rfl⟩) (fun v hv => ?_)
    rw [List.mem_singleton.mp hv]
    exact bl
  have h20 := (g1 20 w (by decide) (by decide) (by omega) (by omega)).trans w1
  have h21 := (g1 21 w (by decide) (by decide) (by omega) (by omega)).trans w2
  have j12 := (k1 12 s (by decide) (by decide) (by omega) (by omega)).trans s1
  have j13 := (k1 13 s (by decide) (by decide) (by omega) (by omega)).trans s2
  have j14 := (k1 14 s (by decide) (by decide) (by omega) (by omega)).trans s4
  refine sg_s (l := [(f, H 21 w + 1, J 14 s, 0 :: c), (J 13 s, H 12 (J 13 s), J 17 (J 13 s), lcs 0 (J 18 (J 13 s)))]) (Or.inl ⟨27, h20, ?_, ?_, j12, ?_, ?_, ?_, ?_, ?_, ?_, ?_, ?_, rfl⟩) (fun v hv => ?_)
  · show w < H 21 w
    rw [h21]
    omega
  · show H 20 (H 21 w) = 25
    rw [h21]
    exact (g1 20 (w3 + 2) (by decide) (by decide) (by omega) (by omega)).trans w7
  · show H 21 (H 21 w) = J 13 s
    rw [h21, j13]
    exact (g1 21 (w3 + 2) (by decide) (by decide) (by omega) (by omega)).trans w8
  · show J 13 s < 50
    rw [j13]
    exact p1
  · show H 13 (J 13 s) = J 18 (J 13 s)
    rw [j13, a13, b18]
    exact p4
  · show J 18 (J 13 s) ≤ 50
    rw [j13, b18]
    exact p5
  · show H 16 (J 13 s) = J 22 (J 13 s)
    rw [j13, a16, b22]
    exact p6
  · show H 15 (J 13 s) = J 20 (J 13 s)
    rw [j13, a15, b20]
    exact p7
  · show J 20 (J 13 s) ≤ 30
    rw [j13, b20]
    exact p8
  · show ∀ j, j < H 15 (J 13 s) → (H 18 (30 * J 13 s + j) = 1 ∧ cx_at c (J 23 (30 * J 13 s + j)) (H 19 (30 * J 13 s + j))) ∨ (H 18 (30 * J 13 s + j) = 0 ∧ H 19 (30 * J 13 s + j) < H 15 f ∧ J 23 (30 * J 13 s + j) = 4294967295 - H 19 (30 * J 13 s + j))
    rw [j13, a15]
    intro j hj
    rw [(acap j (by omega)).1, (acap j (by omega)).2, bcap j (by omega)]
    rcases hcap j hj with z | ⟨z1, z2, z3⟩
    · exact Or.inl z
    · exact Or.inr ⟨z1, Nat.lt_of_lt_of_le z2 g4, z3⟩
  · rcases List.mem_cons.mp hv with z | z
    · rw [z, h21, j14]
      exact e6
    · rw [List.mem_singleton.mp z, j13, a12, b17, b18, p2, p3, ← hcp]
      exact st
