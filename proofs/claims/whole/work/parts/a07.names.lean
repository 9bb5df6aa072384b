/-! ===== a07: a name's meaning on both sides (wip/whole2/lawa07.py) ===== -/
section
variable {nn : Nat} {T : Nat → Nat} {n M O : Nat} {G0 : wq_F} {c0 : List (List Nat)} {i t w s nw ns np N : Nat} {off voff ph : Nat → Nat} {cx : Nat → List Nat} {c cb : List Nat} {W : List (Nat × Nat × Nat × Nat)} {L : List (Nat × Nat)} {P Q : List (Nat × Nat × Nat)} {ls cs : List (List Nat)} {F G : wq_F}

/-- what the name means, on both sides -/
def nmt (N : Nat) (c : List Nat) (ls cs : List (List Nat)) (G H A : wq_F) : Prop :=
  (H 0 61 = 0 ∧ A 59 10 = 5 ∧ cx_at c (A 59 11) (H 0 62)) ∨
  (H 0 61 = 1 ∧ A 59 10 = 7 ∧ H 0 62 = A 59 11 ∧ H 0 62 < H 15 (G 62 (N - 1))) ∨
  (H 0 61 = 2 ∧ A 59 10 = 9 ∧ H 0 62 < ls.length ∧ A 59 11 < cs.length ∧ ls.getD (H 0 62) [] = cs.getD (A 59 11) [])
theorem name_both (hM : tk_M T n M) (hr : ry T n M i ls t w nw np W L P F) (hc : cy T n G0 c0 O i cs s ns np N Q G) (hb : bz N off voff ph cx c np F ls G cs) (hk : tk_k T n i = 1) (hn : 10000 < nn) (hs : s ≤ 6200) (hns : ns ≤ 10000) (hnf : np ≤ 50) (hQ : Q.length ≤ 440) (hc0 : c0.length ≤ 1400) :
    (∃ H A, dk_222 nn F (ev_oL2i (18446744073709551616 + F 11 (F 0 25))) (tk_pos T n i) = some (0, H) ∧ dk_169 nn G (ev_oL2i (G 57 8)) = some (1, A) ∧ ry T n M i ls t w nw np W L P H ∧ cy T n G0 c0 O i cs s ns np N Q A ∧ bz N off voff ph cx c np H ls A cs ∧ rm_fr F H ∧ nmt N c ls cs G H A ∧ ka F H w nw np (lvl N G) ∧ kb G A s ns np (lvl N G) ∧ lk N off G A ∧ H 0 63 = 1 + lc T (tk_pos T n i) ∧ (∀ j, A 56 j = G 56 j) ∧ (∀ l, l < N → A 64 l = G 64 l)) ∨
    (∃ H A, dk_222 nn F (ev_oL2i (18446744073709551616 + F 11 (F 0 25))) (tk_pos T n i) = some (0, H) ∧ dk_169 nn G (ev_oL2i (G 57 8)) = some (0, A) ∧ H 0 4 = 3 ∧ H 0 5 = tk_pos T n i ∧ rm_fr F H ∧ (∀ j, j = 41 ∨ j = 46 → H 0 j = F 0 j) ∧ wok (dk_109 A 3) (fun _ K => sx T n G0 c0 O 3 (tk_pos T n i) N 6200 K)) := by
  have hM1 := hM.1
  have hiM := hr.1.2.2.1
  have hR := hr.1.2.2.2.2.2.2
  have hX := hc.1.2.2.2.2.2.1.1
  have hlb := lsb_len hb.2.2.2.2.2.2.2 hR
  have vr := (hr.1.2.2.2.2.2.1 i (by omega)).2.2.2 (Or.inl hk)
  obtain ⟨sn, v1, v2, v3⟩ := hc.1.2.2.2.2.1 (Or.inl hk)
  have hsl : cs.length ≤ c0.length + i + 1 := hc.1.2.2.2.2.2.1.2.2.1
  have hN := hb.1.1
  rw [v1, tb_l2i (show sn < 4294967296 by omega), hr.1.2.1, tb_l2i (show F 11 i < 4294967296 by omega)]
  have hF1 : F 1 = T := hr.1.2.2.2.1
  have rv := rv_both (nn := nn) (p := tk_pos T n i) (n := n) (by omega) hb.1 hb.2.1 hR hX vr.1 v2 (vr.2.1.trans v3.symm) hr.1.1 hr.1.2.2.2.2.1 hM.2.2.2.1 (tk_pos_le hM i hiM)
  rcases rv with ⟨H, A, B, C, d1, d2, d3, d4, d5, d6, d7, d8, d9, d10, d11⟩ | ⟨H, A, d1, d2, d3, d4, d5, d6⟩
  · left
    have hb3 := d3.1
    have h53 : H 0 53 = F 0 53 := d6 0 53 (by decide) (by decide) (by decide) (by decide)
    have h50 : H 0 50 = F 0 50 := d6 0 50 (by decide) (by decide) (by decide) (by decide)
    have a8 : A 59 8 = G 59 8 := d7 59 8 (by decide) (by decide) (by decide) (by decide)
    have a3 : A 59 3 = G 59 3 := d7 59 3 (by decide) (by decide) (by decide) (by decide)
    have sc1 : sc_ok N off voff ph H ls A cs := sc_ok_up d3 ⟨by omega, by omega⟩ (fun c x y => d8 c (by omega)) ⟨by omega, by omega⟩ (fun c x y => d9 c (by omega)) (st_pre_refl _) (st_pre_refl _)
    have cp1 : cp_ok N off voff ph H A cs := cp_ok_up d4 ⟨d8 15 (by decide), d8 18 (by decide), d8 19 (by decide), d8 30 (by decide)⟩ ⟨d9 20 (by decide), d9 23 (by decide), d9 60 (by decide), d9 61 (by decide), d9 62 (by decide), d9 66 (by decide)⟩ (Nat.le_refl _)
    have hF : ∀ c, c ≠ 0 → c ≠ 15 → c ≠ 18 → c ≠ 19 → H c = F c := fun c x y z u => funext fun i => d6 c i y z u (fun q => absurd q x)
    have hG : ∀ c, c ≠ 59 → c ≠ 20 → c ≠ 23 → c ≠ 66 → A c = G c := fun c x y z u => funext fun i => d7 c i y z u (fun q => absurd q x)
    have e14 := hF 14 (by decide) (by decide) (by decide) (by decide)
    have e30 := hF 30 (by decide) (by decide) (by decide) (by decide)
    have g62 := hG 62 (by decide) (by decide) (by decide) (by decide)
    have g61 := hG 61 (by decide) (by decide) (by decide) (by decide)
    have g64 := hG 64 (by decide) (by decide) (by decide) (by decide)
    have bz1 : bz N off voff ph cx c np H ls A cs := by
      obtain ⟨b1, b2, b3, b4, b5, b6, b7, b8⟩ := hb
      refine ⟨sc1, cp1, ?_, ?_, ?_, ?_, ?_, b8⟩
      · unfold ll_ok
        rw [e14, e30, g62, hG 19 (by decide) (by decide) (by decide) (by decide)]
        exact b3
      · rw [g64]; exact b4
      · rw [g61, e30]; exact b5
      · rw [g62]; exact b6
      · rw [e14, g62, hF 16 (by decide) (by decide) (by decide) (by decide), hG 22 (by decide) (by decide) (by decide) (by decide)]; exact b7
    refine ⟨H, A, d1, d2, ry_x hr (fun c j q => d6 c j (fun z => q (by unfold ry_n; omega)) (fun z => q (by unfold ry_n; omega)) (fun z => q (by unfold ry_n; omega)) (fun z => ⟨fun y => q (by unfold ry_n; omega), fun y => q (by unfold ry_n; omega), fun y => q (by unfold ry_n; omega)⟩)), cy_x hc (fun c j q q2 => d7 c j (fun z => q (by unfold cy_n; omega)) (fun z => q (by unfold cy_n; omega)) (fun z => q (by unfold cy_n; omega)) (fun z => ⟨fun y => q (by unfold cy_n; omega), fun y => q (by unfold cy_n; omega)⟩)) (fun j hj => by rw [hG 14 (by decide) (by decide) (by decide) (by decide)]; exact hc.2.2.2.2.1 j hj) (fun l hl => by rw [hG 65 (by decide) (by decide) (by decide) (by decide)]; exact hc.2.2.2.2.2 l hl), bz1, rm_fr_x (rm_fr_refl F) (fun c j x y _ => d6 c j (by omega) (by omega) (by omega) (by omega)) ⟨d6 0 2 (by decide) (by decide) (by decide) (by decide), d6 0 8 (by decide) (by decide) (by decide) (by decide), d6 0 14 (by decide) (by decide) (by decide) (by decide)⟩, ?_, ?_, ?_, ⟨fun l _ => ⟨by rw [g62], by rw [hG 65 (by decide) (by decide) (by decide) (by decide)]⟩, fun l _ e6 h6 => by rw [hG e6 (by omega) (by omega) (by omega) (by omega)]⟩, by rw [d5, hF1], fun j => d7 56 j (by decide) (by decide) (by decide) (by omega), fun l _ => by rw [g64]⟩
    · rcases d10 with ⟨x1, x2, x3, x4⟩ | ⟨v, x, s', y, x0, x1, x2, x3, x4⟩
      · exact Or.inr (Or.inr ⟨x1, x3, by rw [x2]; exact vr.1, by rw [x4]; exact v2, by rw [x2, x4]; exact vr.2.1.trans v3.symm⟩)
      · rcases x0 with ⟨z1, k0, y1, y2, y3, y4, y5, y6, y7⟩ | ⟨z1, y1, y2, y3, y4, y5, y6⟩
        · rw [if_pos z1] at x1 x3 x4
          refine Or.inl ⟨x1, x3, ?_⟩
          have h5 := hb.2.2.2.2.1 (N - 1) k0 (by omega) y1 y2
          rw [cxf_t (by omega)] at h5
          rw [x4, x2, y5, y3, ← d9 61 (by decide), g61, ← d8 30 (by decide), e30]
          exact h5
        · rw [if_neg (by omega)] at x1 x3 x4
          refine Or.inr (Or.inl ⟨x1, x3, by rw [x2, x4, y5], ?_⟩)
          rw [x2]
          have h7 := (cp_len cp1 (show N - 1 < N by omega)).1
          rw [g62] at h7
          rw [h7]
          rw [← d9 20 (by decide), ← d9 62 (by decide), g62] at y2
          exact y2
    · refine ⟨fun c p x1 x2 _ => d6 c p (by omega) (by omega) (by omega) (by omega), fun k _ => d6 24 k (by omega) (by omega) (by omega) (by omega), fun g hg hl => ?_, fun g _ => ⟨d11.2 g, d6 12 g (by omega) (by omega) (by omega) (by omega), d6 13 g (by omega) (by omega) (by omega) (by omega)⟩⟩
      obtain ⟨⟨p1, _⟩, p3⟩ := d11.1 g (fun l l1 l2 => hl ⟨l, l1, l2⟩)
      exact ⟨⟨d6 12 g (by omega) (by omega) (by omega) (by omega), d6 13 g (by omega) (by omega) (by omega) (by omega), p1, d6 16 g (by omega) (by omega) (by omega) (by omega)⟩, fun k hk => ⟨(p3 k hk).1, (p3 k hk).2.1⟩⟩
    · refine ⟨fun c p x1 x2 _ => d7 c p (by omega) (by omega) (by omega) (by omega), fun k _ => d7 16 k (by omega) (by omega) (by omega) (by omega), fun g hg hl => ?_, fun g _ => ⟨d7 17 g (by omega) (by omega) (by omega) (by omega), d7 18 g (by omega) (by omega) (by omega) (by omega), Nat.le_of_eq (d7 19 g (by omega) (by omega) (by omega) (by omega)).symm⟩⟩
      obtain ⟨⟨_, p2⟩, p3⟩ := d11.1 g (fun l l1 l2 => hl ⟨l, l1, l2⟩)
      exact ⟨⟨d7 17 g (by omega) (by omega) (by omega) (by omega), d7 18 g (by omega) (by omega) (by omega) (by omega), p2, d7 22 g (by omega) (by omega) (by omega) (by omega)⟩, fun k hk => (p3 k hk).2.2⟩
  · right
    have hG : ∀ c, c ≠ 59 → c ≠ 20 → c ≠ 23 → c ≠ 66 → A c = G c := fun c x y z u => funext fun i => d6 c i y z u (fun q => absurd q x)
    have cyA : cy T n G0 c0 O i cs s ns np N Q A := cy_x hc (fun c j q q2 => d6 c j (fun z => q (by unfold cy_n; omega)) (fun z => q (by unfold cy_n; omega)) (fun z => q (by unfold cy_n; omega)) (fun z => ⟨fun y => q (by unfold cy_n; omega), fun y => q (by unfold cy_n; omega)⟩)) (fun j hj => by rw [hG 14 (by decide) (by decide) (by decide) (by decide)]; exact hc.2.2.2.2.1 j hj) (fun l hl => by rw [hG 65 (by decide) (by decide) (by decide) (by decide)]; exact hc.2.2.2.2.2 l hl)
    refine ⟨H, A, d1, d2, d3, d4, rm_fr_x (rm_fr_refl F) (fun c j x y _ => d5 c j (by omega) (by omega) (by omega) (by omega)) ⟨d5 0 2 (by decide) (by decide) (by decide) (by decide), d5 0 8 (by decide) (by decide) (by decide) (by decide), d5 0 14 (by decide) (by decide) (by decide) (by decide)⟩, fun j hj => d5 0 j (by decide) (by decide) (by decide) (by omega), ?_⟩
    obtain ⟨K, a1, a2, a3, a4⟩ := pt_fail3 hM (⟨hr.1, cyA.1⟩ : pr_at T n M G0 c0 O i F ls A cs)
    have h1 := hb.1.1
    refine wok_e a2 (sx_of cyA a3 a4 (by omega) hs hns hnf ⟨h1.1, h1.2.1⟩ ?_ hQ (fun l hl => ?_))
    · rw [d6 59 3 (by decide) (by decide) (by decide) (by decide), h1.2.2.2.2.2.2.1]
      exact h1.2.2.2.2.2.2.2.2
    · rw [hG 63 (by decide) (by decide) (by decide) (by decide), (hb.1.2.1 l hl).2.2.1]
      exact Nat.le_trans (sc_mono (f := off) (N := N) (fun l hl => (hb.1.2.1 l hl).1) (Nat.le_of_lt hl) (Nat.le_refl _)) h1.2.2.2.2.2.2.2.2
end
