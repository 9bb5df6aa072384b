/-! ===== 99e: locals known from here on, known no more; levels entered and left (wip/whole2/99e.txt) ===== -/
/-- hidden ones are known now: j of them, names nr j, the reference's slots sr j, the class's from sl on -/
theorem sc_reveal {N a m sl : Nat} {off voff ph nr sr : Nat → Nat} {F F1 G G1 : wq_F} {ls cs : List (List Nat)} (hs : sc_ok N off voff ph F ls G cs) (hc : cp_ok N off voff ph F G cs) (hl : ll_ok N off voff F G)
    (ha : off (N - 1) ≤ a ∧ a + m = off N) (hsl : sl + m < 2147483648)
    (hhid : ∀ i, a ≤ i → i < off N → G 61 i = 4294967295)
    (hn : ∀ j, j < m → nr j < ls.length ∧ G 60 (a + j) < cs.length ∧ ls.getD (nr j) [] = cs.getD (G 60 (a + j)) [])
    (hsr : (∀ j, j < m → sr j < F 14 (G 62 (N - 1))) ∧ (∀ i j, i < j → j < m → ¬ sr i = sr j) ∧ (∀ j k, j < m → voff (N - 1) ≤ k → k < voff N → ¬ F 30 k = sr j))
    (hF : F1 0 53 = F 0 53 ∧ F1 0 50 = voff N + m ∧ (∀ c, c = 14 ∨ c = 15 ∨ c = 18 ∨ c = 19 ∨ c = 31 ∨ c = 32 → F1 c = F c) ∧ (∀ k, k < voff N → F1 29 k = F 29 k ∧ F1 30 k = F 30 k) ∧ (∀ j, j < m → F1 29 (voff N + j) = nr j ∧ F1 30 (voff N + j) = sr j))
    (hG : (∀ c, c ≠ 61 → G1 c = G c) ∧ (∀ i, i < a → G1 61 i = G 61 i) ∧ (∀ j, j < m → G1 61 (a + j) = sl + j)) :
    ∃ ph1, sc_ok N off (at_N voff N (voff N + m)) ph1 F1 ls G1 cs ∧ cp_ok N off (at_N voff N (voff N + m)) ph1 F1 G1 cs ∧ ll_ok N off (at_N voff N (voff N + m)) F1 G1 ∧ (∀ k, k < voff N → ph1 k = ph k) ∧ ∀ j, j < m → ph1 (voff N + j) = a + j := by
  obtain ⟨s1, s2, s3, s4, s5, s6, s7, s8⟩ := hs
  obtain ⟨f1, f2, f3, f4, f5⟩ := hF
  obtain ⟨g1, g2, g3⟩ := hG
  have G62 := g1 62 (by decide)
  have hN1 : N - 1 + 1 = N := by omega
  have hl1 := s2 (N - 1) (by omega)
  rw [hN1] at hl1
  have vN : at_N voff N (voff N + m) N = voff N + m := at_N_is
  have vL : ∀ l, l < N → at_N voff N (voff N + m) l = voff l := fun l hl => at_N_ne (by omega)
  have vS : ∀ l, l < N → at_N voff N (voff N + m) (l + 1) = if l + 1 = N then voff N + m else voff (l + 1) := fun l hl => by
    by_cases e : l + 1 = N
    · rw [if_pos e, e, vN]
    · rw [if_neg e, at_N_ne e]
  generalize at_N voff N (voff N + m) = v1 at *
  have mono := fun {a b : Nat} => sc_mono (f := off) (N := N) (a := a) (b := b) (fun l hl => (s2 l hl).1)
  have vmono := fun {a b : Nat} => sc_mono (f := voff) (N := N) (a := a) (b := b) (fun l hl => (s2 l hl).2.1)
  have hpa : ∀ k, k < voff N → ph k < a := fun k hk => by
    have h3 := s3 k hk
    by_cases z : ph k < a
    · exact z
    · have := hhid (ph k) (by omega) h3.1
      omega
  have p1 : ∀ k, k < voff N → (if k < voff N then ph k else a + (k - voff N)) = ph k := fun k hk => if_pos hk
  have p2 : ∀ j, j < m → (if voff N + j < voff N then ph (voff N + j) else a + (voff N + j - voff N)) = a + j := fun j hj => by
    rw [if_neg (by omega), show voff N + j - voff N = j by omega]
  refine ⟨fun k => if k < voff N then ph k else a + (k - voff N), ⟨?_, fun l hl => ?_, fun k hk => ?_, fun j k hj hk => ?_, fun i hi hv => ?_, fun l k hl hk => ?_, fun l j k hl h1 h2 h3 => ?_, fun l k h1 h2 => ?_⟩, ?_, fun l hl2 => ?_, p1, p2⟩
  · rw [f1, f2, vN, vL 0 (by omega), g1 59 (by decide)]
    exact ⟨s1.1, s1.2.1, s1.2.2.1, s1.2.2.2.1, s1.2.2.2.2.1, s1.2.2.2.2.2.1, s1.2.2.2.2.2.2.1, rfl, s1.2.2.2.2.2.2.2.2⟩
  · obtain ⟨a1, a2, a3, a4, a5, a6⟩ := s2 l hl
    rw [vL l hl, vS l hl, g1 63 (by decide), f3 31 (by decide), f3 32 (by decide), G62]
    refine ⟨a1, ?_, a3, a4, a5, a6⟩
    by_cases e : l + 1 = N
    · rw [if_pos e]
      rw [e] at a2
      omega
    · rw [if_neg e]
      exact a2
  · rw [vN] at hk
    show (if k < voff N then ph k else a + (k - voff N)) < off N ∧ G1 61 (if k < voff N then ph k else a + (k - voff N)) < 2147483648 ∧ F1 29 k < ls.length ∧ G1 60 (if k < voff N then ph k else a + (k - voff N)) < cs.length ∧ ls.getD (F1 29 k) [] = cs.getD (G1 60 (if k < voff N then ph k else a + (k - voff N))) []
    rw [g1 60 (by decide)]
    by_cases z : k < voff N
    · rw [if_pos z, g2 _ (hpa k z), (f4 k z).1]
      exact s3 k z
    · obtain ⟨j, rfl⟩ : ∃ j, k = voff N + j := ⟨k - voff N, by omega⟩
      rw [p2 j (by omega), g3 j (by omega), (f5 j (by omega)).1]
      obtain ⟨b1, b2, b3⟩ := hn j (by omega)
      exact ⟨by omega, by omega, b1, b2, b3⟩
  · rw [vN] at hk
    show (if j < voff N then ph j else a + (j - voff N)) < (if k < voff N then ph k else a + (k - voff N))
    by_cases z : k < voff N
    · rw [if_pos z, if_pos (by omega)]
      exact s4 j k hj z
    · rw [if_neg z]
      by_cases y : j < voff N
      · rw [if_pos y]
        have := hpa j y
        omega
      · rw [if_neg y]
        omega
  · by_cases z : i < a
    · rw [g2 i z] at hv
      obtain ⟨k, k1, k2⟩ := s5 i hi hv
      refine ⟨k, by rw [vN]; omega, ?_⟩
      show (if k < voff N then ph k else a + (k - voff N)) = i
      rw [if_pos k1]
      exact k2
    · refine ⟨voff N + (i - a), by rw [vN]; omega, ?_⟩
      show (if voff N + (i - a) < voff N then ph (voff N + (i - a)) else a + (voff N + (i - a) - voff N)) = i
      rw [p2 (i - a) (by omega)]
      omega
  · rw [vN] at hk
    rw [vL l hl, vS l hl]
    show (voff l ≤ k ∧ k < (if l + 1 = N then voff N + m else voff (l + 1))) ↔ (off l ≤ (if k < voff N then ph k else a + (k - voff N)) ∧ (if k < voff N then ph k else a + (k - voff N)) < off (l + 1))
    by_cases z : k < voff N
    · rw [if_pos z]
      have h6 := s6 l k hl z
      by_cases e : l + 1 = N
      · rw [if_pos e]
        rw [e] at h6 ⊢
        omega
      · rw [if_neg e]
        exact h6
    · rw [if_neg z]
      by_cases e : l + 1 = N
      · have el : l = N - 1 := by omega
        rw [if_pos e, e, el]
        omega
      · rw [if_neg e]
        have h9 := vmono (show l + 1 ≤ N by omega) (Nat.le_refl _)
        have h10 := mono (show l + 1 ≤ N - 1 by omega) (by omega)
        omega
  · rw [vL l hl] at h1
    rw [vS l hl] at h3
    by_cases e : l + 1 = N
    · rw [if_pos e] at h3
      have el : l = N - 1 := by omega
      rw [el] at h1
      by_cases z : k < voff N
      · rw [(f4 k z).2, (f4 j (by omega)).2]
        exact s7 (N - 1) j k (by omega) h1 h2 (by rw [hN1]; exact z)
      · obtain ⟨k', rfl⟩ : ∃ k', k = voff N + k' := ⟨k - voff N, by omega⟩
        rw [(f5 k' (by omega)).2]
        by_cases y : j < voff N
        · rw [(f4 j y).2]
          exact hsr.2.2 k' j (by omega) h1 y
        · obtain ⟨j', rfl⟩ : ∃ j', j = voff N + j' := ⟨j - voff N, by omega⟩
          rw [(f5 j' (by omega)).2]
          exact hsr.2.1 j' k' (by omega) (by omega)
    · rw [if_neg e] at h3
      have h9 := vmono (show l + 1 ≤ N by omega) (Nat.le_refl _)
      rw [(f4 k (by omega)).2, (f4 j (by omega)).2]
      exact s7 l j k hl h1 h2 h3
  · rw [G62]
    exact s8 l k h1 h2
  · have vc : ∀ l b, l + 1 < N → sc_vc off G1 l b = sc_vc off G l b := fun l b hl => sc_vc_in ⟨rfl, rfl⟩ (fun i hi => by
      have := mono (show l + 1 ≤ N - 1 by omega) (by omega)
      exact ⟨by rw [g1 60 (by decide)], g2 i (by omega)⟩)
    unfold cp_ok cp_at at hc ⊢
    rw [f3 15 (by decide), f3 18 (by decide), f3 19 (by decide), g1 20 (by decide), G62, g1 66 (by decide), g1 23 (by decide)]
    refine ⟨hc.1, fun l hl2 => ?_⟩
    obtain ⟨c1, c2, c3, c4⟩ := hc.2 l hl2
    refine ⟨c1, c2, c3, fun k hk => ?_⟩
    obtain ⟨d1, d2, d3⟩ := c4 k hk
    rw [vc l _ hl2]
    refine ⟨d1, fun i hi => ?_, d3⟩
    obtain ⟨k0, e1, e2, e3, e4, e5, e6⟩ := d2 i hi
    have hi2 := (lx_lst_some hi).1
    have h9 := vmono (show l + 1 ≤ N by omega) (Nat.le_refl _)
    have h10 := mono (show l + 1 ≤ N - 1 by omega) (by omega)
    rw [vL l (by omega), vL (l + 1) hl2, g2 i (by omega)]
    refine ⟨k0, e1, e2, ?_, e4, ?_, e6⟩
    · show (if k0 < voff N then ph k0 else a + (k0 - voff N)) = i
      rw [if_pos (by omega)]
      exact e3
    · rw [(f4 k0 (by omega)).2]
      exact e5
  · obtain ⟨a1, a2, a3, a4⟩ := hl l hl2
    rw [f3 14 (by decide), G62, g1 19 (by decide), vL l hl2, vS l hl2]
    refine ⟨a1, a2, a3, fun k h1 h2 => ?_⟩
    by_cases e : l + 1 = N
    · rw [if_pos e] at h2
      have el : l = N - 1 := by omega
      by_cases z : k < voff N
      · rw [(f4 k z).2]
        exact a4 k h1 (by rw [e]; exact z)
      · obtain ⟨k', rfl⟩ : ∃ k', k = voff N + k' := ⟨k - voff N, by omega⟩
        rw [(f5 k' (by omega)).2, el]
        exact hsr.1 k' (by omega)
    · rw [if_neg e] at h2
      have h9 := vmono (show l + 1 ≤ N by omega) (Nat.le_refl _)
      rw [(f4 k (by omega)).2]
      exact a4 k h1 h2
/-- locals from a number on are known no more -/
theorem sc_close {N a b : Nat} {off voff ph : Nat → Nat} {F F1 G G1 : wq_F} {ls cs : List (List Nat)} (hs : sc_ok N off voff ph F ls G cs) (hc : cp_ok N off voff ph F G cs) (hl : ll_ok N off voff F G)
    (ha : off (N - 1) ≤ a ∧ a ≤ off N) (hb : voff (N - 1) ≤ b ∧ b ≤ voff N) (hab : ∀ k, k < voff N → (k < b ↔ ph k < a))
    (hF : F1 0 53 = F 0 53 ∧ F1 0 50 = b ∧ (∀ c, c = 14 ∨ c = 15 ∨ c = 18 ∨ c = 19 ∨ c = 29 ∨ c = 30 ∨ c = 31 ∨ c = 32 → F1 c = F c))
    (hG : G1 59 8 = G 59 8 ∧ G1 59 3 = a ∧ (∀ c, c = 19 ∨ c = 20 ∨ c = 23 ∨ c = 60 ∨ c = 61 ∨ c = 62 ∨ c = 63 ∨ c = 66 → G1 c = G c)) :
    sc_ok N (at_N off N a) (at_N voff N b) ph F1 ls G1 cs ∧ cp_ok N (at_N off N a) (at_N voff N b) ph F1 G1 cs ∧ ll_ok N (at_N off N a) (at_N voff N b) F1 G1 := by
  obtain ⟨s1, s2, s3, s4, s5, s6, s7, s8⟩ := hs
  obtain ⟨f1, f2, f3⟩ := hF
  obtain ⟨g0, g00, g1⟩ := hG
  have hN1 : N - 1 + 1 = N := by omega
  have oL : ∀ l, l < N → at_N off N a l = off l := fun l hl => at_N_ne (by omega)
  have oS : ∀ l, l < N → at_N off N a (l + 1) = if l + 1 = N then a else off (l + 1) := fun l hl => by
    by_cases e : l + 1 = N
    · rw [if_pos e, e, at_N_is]
    · rw [if_neg e, at_N_ne e]
  have oN : at_N off N a N = a := at_N_is
  have vL : ∀ l, l < N → at_N voff N b l = voff l := fun l hl => at_N_ne (by omega)
  have vS : ∀ l, l < N → at_N voff N b (l + 1) = if l + 1 = N then b else voff (l + 1) := fun l hl => by
    by_cases e : l + 1 = N
    · rw [if_pos e, e, at_N_is]
    · rw [if_neg e, at_N_ne e]
  have vN : at_N voff N b N = b := at_N_is
  generalize at_N off N a = o1 at *
  generalize at_N voff N b = v1 at *
  have mono := fun {a b : Nat} => sc_mono (f := off) (N := N) (a := a) (b := b) (fun l hl => (s2 l hl).1)
  have G60 := g1 60 (by decide)
  have G61 := g1 61 (by decide)
  have G62 := g1 62 (by decide)
  refine ⟨⟨?_, fun l hl => ?_, fun k hk => ?_, fun j k hj hk => ?_, fun i hi hv => ?_, fun l k hl hk => ?_, fun l j k hl h1 h2 h3 => ?_, fun l k h1 h2 => ?_⟩, ?_, fun l hl2 => ?_⟩
  · rw [f1, f2, g0, g00, oN, vN, oL 0 (by omega), vL 0 (by omega)]
    exact ⟨s1.1, s1.2.1, s1.2.2.1, s1.2.2.2.1, s1.2.2.2.2.1, s1.2.2.2.2.2.1, rfl, rfl, by have := s1.2.2.2.2.2.2.2.2; omega⟩
  · obtain ⟨a1, a2, a3, a4, a5, a6⟩ := s2 l hl
    rw [oL l hl, oS l hl, vL l hl, vS l hl, g1 63 (by decide), f3 31 (by decide), f3 32 (by decide), G62]
    by_cases e : l + 1 = N
    · have el : l = N - 1 := by omega
      rw [if_pos e, if_pos e, el]
      rw [el] at a3 a4 a5 a6
      exact ⟨ha.1, hb.1, a3, a4, a5, a6⟩
    · rw [if_neg e, if_neg e]
      exact ⟨a1, a2, a3, a4, a5, a6⟩
  · rw [vN] at hk
    rw [oN, G61, f3 29 (by decide), G60]
    obtain ⟨a1, a2, a3, a4, a5⟩ := s3 k (by omega)
    exact ⟨(hab k (by omega)).mp hk, a2, a3, a4, a5⟩
  · rw [vN] at hk
    exact s4 j k hj (by omega)
  · rw [oN] at hi
    rw [G61] at hv
    obtain ⟨k, k1, k2⟩ := s5 i (by omega) hv
    exact ⟨k, by rw [vN]; exact (hab k k1).mpr (by omega), k2⟩
  · rw [vN] at hk
    rw [oL l hl, oS l hl, vL l hl, vS l hl]
    have h6 := s6 l k hl (by omega)
    by_cases e : l + 1 = N
    · rw [if_pos e, if_pos e]
      rw [e] at h6
      have := hab k (by omega)
      omega
    · rw [if_neg e, if_neg e]
      exact h6
  · rw [vL l hl] at h1
    rw [vS l hl] at h3
    rw [f3 30 (by decide)]
    by_cases e : l + 1 = N
    · rw [if_pos e] at h3
      exact s7 l j k hl h1 h2 (by rw [e]; omega)
    · rw [if_neg e] at h3
      exact s7 l j k hl h1 h2 h3
  · rw [G62]
    exact s8 l k h1 h2
  · have vc : ∀ l b, l + 1 < N → sc_vc o1 G1 l b = sc_vc off G l b := fun l b hl => sc_vc_in ⟨oL l (by omega), oL (l + 1) hl⟩ (fun i hi => ⟨by rw [G60], by rw [G61]⟩)
    unfold cp_ok cp_at at hc ⊢
    rw [f3 15 (by decide), f3 18 (by decide), f3 19 (by decide), f3 30 (by decide), g1 20 (by decide), G62, g1 66 (by decide), g1 23 (by decide), G61]
    refine ⟨hc.1, fun l hl2 => ?_⟩
    obtain ⟨c1, c2, c3, c4⟩ := hc.2 l hl2
    refine ⟨c1, c2, c3, fun k hk => ?_⟩
    obtain ⟨d1, d2, d3⟩ := c4 k hk
    rw [vc l _ hl2, vL l (by omega), vL (l + 1) hl2]
    exact ⟨d1, d2, d3⟩
  · obtain ⟨a1, a2, a3, a4⟩ := hl l hl2
    rw [f3 14 (by decide), f3 30 (by decide), G62, g1 19 (by decide), oL l hl2, oS l hl2, vL l hl2, vS l hl2]
    by_cases e : l + 1 = N
    · rw [if_pos e, if_pos e]
      rw [e] at a3 a4
      exact ⟨a1, a2, by omega, fun k h1 h2 => a4 k h1 (by omega)⟩
    · rw [if_neg e, if_neg e]
      exact ⟨a1, a2, a3, a4⟩
