/-! ===== a27: a new name hidden, other rows above, names revealed (wip/whole2/lawa27.py) ===== -/
section
variable {nn : Nat} {T : Nat → Nat} {n M O : Nat} {G0 : wq_F} {c0 : List (List Nat)} {i t w s nw ns np N : Nat} {off voff ph : Nat → Nat} {cx : Nat → List Nat} {c cb : List Nat} {W : List (Nat × Nat × Nat × Nat)} {L : List (Nat × Nat)} {P Q : List (Nat × Nat × Nat)} {ls cs : List (List Nat)} {F G : wq_F}

theorem hd_cell {f a nc d j : Nat} (h1 : ¬ (d = 19 ∧ j = f)) (h2 : ¬ ((d = 60 ∨ d = 61) ∧ j = a)) (h3 : ¬ (d = 59 ∧ j = 3)) : hd_up G f a nc d j = G d j := by
  unfold hd_up
  rw [wq_up_ne h3, wq_up_ne (by omega), wq_up_ne (by omega), wq_up_ne h1]
/-- a new name, hidden yet -/
theorem bz_hide {nc : Nat} (hb : bz N off voff ph cx c np F ls G cs) (hn : nc < cs.length) (h : G 19 (G 62 (N - 1)) < 50) : bz N (at_N off N (off N + 1)) voff ph cx c np (wq_up F 14 (G 62 (N - 1)) (F 14 (G 62 (N - 1)) + 1)) ls (hd_up G (G 62 (N - 1)) (off N) nc) cs := by
  obtain ⟨b1, b2, b3, b4, b5, b6, b7, b8⟩ := hb
  obtain ⟨e1, e2, e3⟩ := sc_hide b1 b2 b3 hn h
  have hm : ∀ l, l < N → voff l ≤ voff (l + 1) := fun l hl => (b1.2.1 l hl).2.1
  refine ⟨e1, e2, e3, fun l hl => ?_, fun l k hl h1 h2 => ?_, fun l hl => ?_, fun l hl => ⟨?_, fun e he => ?_⟩, b8⟩
  · rw [hd_cell (by omega) (by omega) (by omega)]
    exact b4 l hl
  · have vm : voff (l + 1) ≤ voff N := sc_mono hm (by omega) (Nat.le_refl _)
    have p1 := (b1.2.2.1 k (by omega)).1
    rw [hd_cell (by omega) (by omega) (by omega), wq_up_cell (by decide)]
    exact b5 l k hl h1 h2
  · rw [hd_cell (by omega) (by omega) (by omega)]
    exact b6 l hl
  · rw [wq_up_cell (by decide), hd_cell (d := 62) (by omega) (by omega) (by omega), hd_cell (d := 22) (by omega) (by omega) (by omega)]
    exact (b7 l hl).1
  · rw [hd_cell (d := 62) (by omega) (by omega) (by omega)]
    have y := (b7 l hl).2 e he
    by_cases z : G 62 l = G 62 (N - 1)
    · rw [z] at y ⊢
      rw [wq_up_same]
      omega
    · rw [wq_up_at z]
      exact y
/-- the reference's rows of names may differ above those known -/
theorem bz_29 {H : wq_F} (hb : bz N off voff ph cx c np F ls G cs) (h50 : H 0 50 = F 0 50) (h53 : H 0 53 = F 0 53) (hc : ∀ d j, d = 14 ∨ d = 15 ∨ d = 16 ∨ d = 18 ∨ d = 19 ∨ d = 31 ∨ d = 32 → H d j = F d j) (hk : ∀ k, k < voff N → H 29 k = F 29 k ∧ H 30 k = F 30 k) : bz N off voff ph cx c np H ls G cs := by
  obtain ⟨⟨s1, s2, s3, s4, s5, s6, s7, s8⟩, b2, b3, b4, b5, b6, b7, b8⟩ := hb
  have hm : ∀ l, l < N → voff l ≤ voff (l + 1) := fun l hl => (s2 l hl).2.1
  have vm : ∀ l, l < N → voff (l + 1) ≤ voff N := fun l hl => sc_mono hm (by omega) (Nat.le_refl _)
  refine ⟨⟨?_, fun l hl => ?_, fun k hk2 => ?_, s4, s5, s6, fun l j k hl h1 h2 h3 => ?_, s8⟩, ⟨?_, fun l hl => ?_⟩, fun l hl => ?_, b4, fun l k hl h1 h2 => ?_, b6, fun l hl => ?_, b8⟩
  · rw [h50, h53]
    exact s1
  · rw [hc 31 l (by decide), hc 32 l (by decide)]
    exact s2 l hl
  · rw [(hk k hk2).1]
    exact s3 k hk2
  · have := vm l hl
    rw [(hk j (by omega)).2, (hk k (by omega)).2]
    exact s7 l j k hl h1 h2 h3
  · rw [hc 15 _ (by decide)]
    exact b2.1
  · have y := b2.2 l hl
    have vl := vm l (by omega)
    unfold cp_at at y ⊢
    rw [hc 15 _ (by decide)]
    refine ⟨y.1, y.2.1, y.2.2.1, fun k hk2 => ?_⟩
    obtain ⟨d1, d2, d3⟩ := y.2.2.2 k hk2
    rw [hc 18 _ (by decide), hc 19 _ (by decide)]
    refine ⟨d1, fun i hi => ?_, d3⟩
    obtain ⟨k0, x1, x2, x3, x4, x5, x6⟩ := d2 i hi
    exact ⟨k0, x1, x2, x3, x4, by rw [(hk k0 (by omega)).2]; exact x5, x6⟩
  · have vl := vm l hl
    obtain ⟨y1, y2, y3, y4⟩ := b3 l hl
    rw [hc 14 _ (by decide)]
    exact ⟨y1, y2, y3, fun k h1 h2 => by rw [(hk k (by omega)).2]; exact y4 k h1 h2⟩
  · have vl := vm l hl
    rw [(hk k (by omega)).2]
    exact b5 l k hl h1 h2
  · rw [hc 16 _ (by decide), hc 14 _ (by decide)]
    exact b7 l hl
/-- hidden names are known: m of them, from a on -/
theorem bz_reveal {a m sl : Nat} {nr sr : Nat → Nat} {d : List Nat} {H K : wq_F} (hb : bz N off voff ph cx c np F ls G cs) (ha : off (N - 1) ≤ a ∧ a + m = off N) (hsl : sl + m < 2147483648) (hhid : ∀ i, a ≤ i → i < off N → G 61 i = 4294967295)
    (hn : ∀ j, j < m → nr j < ls.length ∧ G 60 (a + j) < cs.length ∧ ls.getD (nr j) [] = cs.getD (G 60 (a + j)) [])
    (hsr : (∀ j, j < m → sr j < F 14 (G 62 (N - 1))) ∧ (∀ i j, i < j → j < m → ¬ sr i = sr j) ∧ (∀ j k, j < m → voff (N - 1) ≤ k → k < voff N → ¬ F 30 k = sr j))
    (hF : H 0 53 = F 0 53 ∧ H 0 50 = voff N + m ∧ (∀ d, d = 14 ∨ d = 15 ∨ d = 16 ∨ d = 18 ∨ d = 19 ∨ d = 31 ∨ d = 32 → H d = F d) ∧ (∀ k, k < voff N → H 29 k = F 29 k ∧ H 30 k = F 30 k) ∧ (∀ j, j < m → H 29 (voff N + j) = nr j ∧ H 30 (voff N + j) = sr j))
    (hG : (∀ c, c ≠ 61 → c ≠ 64 → K c = G c) ∧ (∀ i, i < a → K 61 i = G 61 i) ∧ (∀ j, j < m → K 61 (a + j) = sl + j)) (h64 : ∀ l, l < N → K 64 l = hg (cxf cx N d l))
    (hat : ∀ k, voff (N - 1) ≤ k → k < voff N → cx_at c (G 61 (ph k)) (F 30 k) → cx_at d (G 61 (ph k)) (F 30 k)) (hnew : ∀ j, j < m → cx_at d (sl + j) (sr j)) (hd : ∀ e ∈ d, e < F 14 (G 62 (N - 1)) + 5) :
    ∃ ph1, bz N off (at_N voff N (voff N + m)) ph1 cx d np H ls K cs ∧ (∀ k, k < voff N → ph1 k = ph k) ∧ ∀ j, j < m → ph1 (voff N + j) = a + j := by
  obtain ⟨b1, b2, b3, b4, b5, b6, b7, b8⟩ := hb
  obtain ⟨f1, f2, f3, f4, f5⟩ := hF
  obtain ⟨g1, g2, g3⟩ := hG
  have hN := b1.1.1
  have hm : ∀ l, l < N → voff l ≤ voff (l + 1) := fun l hl => (b1.2.1 l hl).2.1
  have vm : ∀ l, l < N → voff (l + 1) ≤ voff N := fun l hl => sc_mono hm (by omega) (Nat.le_refl _)
  have gi : ∀ e, e ≠ 64 → (fun d j => if d = 64 then G 64 j else K d j) e = K e := fun e he => funext fun j => if_neg he
  have gj : ∀ e, e ≠ 61 → (fun d j => if d = 64 then G 64 j else K d j) e = G e := fun e he => by
    by_cases z : e = 64
    · rw [z]
      exact funext fun j => if_pos rfl
    · rw [gi e z]
      exact g1 e he z
  obtain ⟨ph1, r1, r2, r3, r4, r5⟩ := sc_reveal (F1 := H) (G1 := fun d j => if d = 64 then G 64 j else K d j) (nr := nr) (sr := sr) (sl := sl) b1 b2 b3 ha hsl hhid hn hsr ⟨f1, f2, fun d hd => f3 d (by omega), f4, f5⟩ ⟨gj, fun i hi => (congrFun (gi 61 (by decide)) i).trans (g2 i hi), fun j hj => (congrFun (gi 61 (by decide)) (a + j)).trans (g3 j hj)⟩
  have q1 := sc_ok_up (F1 := H) (G1 := K) r1 ⟨rfl, rfl⟩ (fun c a b => rfl) ⟨(congrFun (gi 59 (by decide)) 8).symm, (congrFun (gi 59 (by decide)) 3).symm⟩ (fun c a b => (gi c (by omega)).symm) (st_pre_refl ls) (st_pre_refl cs)
  have q2 := cp_ok_up (F1 := H) (G1 := K) r2 ⟨rfl, rfl, rfl, rfl⟩ ⟨(gi 20 (by decide)).symm, (gi 23 (by decide)).symm, (gi 60 (by decide)).symm, (gi 61 (by decide)).symm, (gi 62 (by decide)).symm, (gi 66 (by decide)).symm⟩ (Nat.le_refl cs.length)
  have q3 : ll_ok N off (at_N voff N (voff N + m)) H K := by
    have e62 := gi 62 (by decide)
    have e19 := gi 19 (by decide)
    unfold ll_ok at r3 ⊢
    simp only [e62, e19] at r3
    exact r3
  have G62 := g1 62 (by decide) (by decide)
  refine ⟨ph1, ⟨q1, q2, q3, h64, fun l k hl h1 h2 => ?_, fun l hl => ?_, fun l hl => ⟨?_, fun e he => ?_⟩, b8⟩, r4, r5⟩
  · have vl := vm l hl
    by_cases z : k < voff N
    · have p1 := b1.2.2.1 k z
      have pa : ph k < a := by
        by_cases y : ph k < a
        · exact y
        · have := hhid (ph k) (by omega) p1.1
          omega
      rw [r4 k z, g2 _ pa, (f4 k z).2]
      rw [at_N_ne (by omega)] at h1
      by_cases y : l + 1 = N
      · rw [cxf_t y]
        rw [show l = N - 1 by omega] at h1
        refine hat k h1 z ?_
        have x := b5 (N - 1) k (by omega) h1 (by rw [show N - 1 + 1 = N by omega]; exact z)
        rw [cxf_t (by omega)] at x
        exact x
      · rw [at_N_ne y] at h2
        have x := b5 l k hl h1 h2
        rw [cxf_f y] at x ⊢
        exact x
    · by_cases y : l + 1 = N
      · rw [y, at_N_is] at h2
        obtain ⟨j, rfl⟩ : ∃ j, k = voff N + j := ⟨k - voff N, by omega⟩
        rw [r5 j (by omega), g3 j (by omega), (f5 j (by omega)).2, cxf_t y]
        exact hnew j (by omega)
      · rw [at_N_ne y] at h2
        omega
  · rw [G62]
    exact b6 l hl
  · rw [G62, f3 16 (by decide), g1 22 (by decide) (by decide)]
    exact (b7 l hl).1
  · rw [G62, f3 14 (by decide)]
    by_cases y : l + 1 = N
    · rw [cxf_t y] at he
      rw [show l = N - 1 by omega]
      exact hd e he
    · have x := (b7 l hl).2 e
      rw [cxf_f y] at he x
      exact x he
end
