/-! ===== 99: resolve() on both sides (wip/whole2/99.txt) ===== -/
/-- what both sides found -/
def rv_end (N : Nat) (off voff ph : Nat → Nat) (F G : wq_F) (nr nc : Nat) (H A : wq_F) : Prop :=
  (H 0 61 = 2 ∧ H 0 62 = nr ∧ A 59 10 = 9 ∧ A 59 11 = nc) ∨
  ∃ v x s y, lk_at off voff ph F G nc (N - 1) v x s y ∧ H 0 61 = (if v = 1 then 0 else 1) ∧ H 0 62 = x ∧ A 59 10 = (if v = 1 then 5 else 7) ∧ A 59 11 = (if v = 1 then s else y)
/-- captured: only at open functions; what was captured before stays counted -/
def rv_kp (N : Nat) (F G H A : wq_F) : Prop := (∀ g, (∀ l, l < N → ¬ G 62 l = g) → (H 15 g = F 15 g ∧ A 20 g = G 20 g) ∧ ∀ k, k < 30 → H 18 (30 * g + k) = F 18 (30 * g + k) ∧ H 19 (30 * g + k) = F 19 (30 * g + k) ∧ A 23 (30 * g + k) = G 23 (30 * g + k)) ∧ ∀ g, F 15 g ≤ H 15 g
theorem rv_append {nn N p lv nc nr : Nat} {off voff ph : Nat → Nat} {ls cs : List (List Nat)} (hnn : 30 < nn) (hcl : nc < cs.length) : ∀ d m : Nat, ∀ (F G : wq_F) (v x s y g gX : Nat), N = m + d → 1 ≤ m → d < g → d < gX → sc_ok N off voff ph F ls G cs → cp_ok N off voff ph F G cs → F 0 4 = 0 → lk_at off voff ph F G nc (m - 1) v x s y → nf_at N off G nc m → (v = 1 → lv = m - 1) → (v = 0 → lv < m - 1) →
    (∃ H A B C, dk_222_88 nn g F p lv x v m = some (0, H) ∧ dk_169_82 nn gX G nc s y m = some (1, A) ∧ sc_ok N off voff ph B ls C cs ∧ cp_ok N off voff ph B C cs ∧ rv_frF F H ∧ rv_frG G A ∧ (∀ c, c ≠ 0 → H c = B c) ∧ (∀ c, c ≠ 59 → A c = C c) ∧ rv_end N off voff ph B C nr nc H A ∧ rv_kp N F G H A) ∨
    (∃ H A, dk_222_88 nn g F p lv x v m = some (0, H) ∧ dk_169_82 nn gX G nc s y m = some (0, A) ∧ H 0 4 = 3 ∧ H 0 5 = p ∧ (∀ c i, c ≠ 15 → c ≠ 18 → c ≠ 19 → (c = 0 → i ≠ 4 ∧ i ≠ 5 ∧ i ≠ 61 ∧ i ≠ 62) → H c i = F c i) ∧ rv_frG G A)
  | 0, m, F, G, v, x, s, y, g, gX, hN, h1, hg, hgX, hs, hc, h4, hlk, hnf, hv1, hv0 => by
    left
    obtain ⟨g, rfl⟩ : ∃ g', g = g' + 1 := ⟨g - 1, by omega⟩
    obtain ⟨gX, rfl⟩ : ∃ g', gX = g' + 1 := ⟨gX - 1, by omega⟩
    have hN1 := hs.1
    have e1 : dk_222_88 nn (g + 1) F p lv x v m = some (0, wq_up (wq_up F 0 61 (if v = 1 then 0 else 1)) 0 62 x) := by
      show dk_222_88b nn (dk_222_88 nn g) F p lv x v m = _
      unfold dk_222_88b
      rw [if_pos ((wd_slt (by omega) (by omega)).mpr (by omega))]
      rcases hlk with ⟨v1, _⟩ | ⟨v0, _⟩
      · rw [if_pos (by have := hv1 v1; omega), od_upS, od_upS, if_pos v1]
      · rw [if_neg (by have := hv0 v0; omega), od_upS, od_upS, if_neg (by omega)]
    have e2 : dk_169_82 nn (gX + 1) G nc s y m = some (1, wq_up (wq_up G 59 10 (if v = 1 then 5 else 7)) 59 11 (if v = 1 then s else y)) := by
      show dk_169_82b nn (dk_169_82 nn gX) G nc s y m = _
      unfold dk_169_82b
      rw [if_pos ((wd_slt (by omega) (by omega)).mpr (by omega))]
      unfold dk_169_200
      rcases hlk with ⟨v1, k0, _, _, _, _, _, a6, _⟩ | ⟨v0, _, _, _, a4, _, _⟩
      · rw [if_neg (by omega), od_upS, if_neg (by omega), od_upS, if_pos v1, if_pos v1]
      · rw [if_pos (by omega), od_upS, if_pos (by omega), od_upS, if_neg (by omega), if_neg (by omega)]
    refine ⟨_, _, F, G, e1, e2, hs, hc, fun c i _ _ _ h => ?_, fun c i _ _ _ h => ?_, fun c hc0 => ?_, fun c hc0 => ?_, Or.inr ⟨v, x, s, y, ?_, ?_, ?_, ?_, ?_⟩, ?_⟩
    · rw [wq_up_ne (fun z => (h z.1).2 z.2), wq_up_ne (fun z => (h z.1).1 z.2)]
    · rw [wq_up_ne (fun z => (h z.1).2 z.2), wq_up_ne (fun z => (h z.1).1 z.2)]
    · funext i
      rw [wq_up_cell hc0, wq_up_cell hc0]
    · funext i
      rw [wq_up_cell hc0, wq_up_cell hc0]
    · rw [show N - 1 = m - 1 by omega]
      exact hlk
    · rw [wq_up_at (by decide), wq_up_same]
    · rw [wq_up_same]
    · rw [wq_up_at (by decide), wq_up_same]
    · rw [wq_up_same]
    · refine ⟨fun g _ => ⟨⟨?_, ?_⟩, fun k _ => ⟨?_, ?_, ?_⟩⟩, fun g => ?_⟩
      · rw [wq_up_cell (by decide), wq_up_cell (by decide)]
      · rw [wq_up_cell (by decide), wq_up_cell (by decide)]
      · rw [wq_up_cell (by decide), wq_up_cell (by decide)]
      · rw [wq_up_cell (by decide), wq_up_cell (by decide)]
      · rw [wq_up_cell (by decide), wq_up_cell (by decide)]
      · rw [wq_up_cell (by decide), wq_up_cell (by decide)]
        exact Nat.le_refl _
  | d + 1, m, F, G, v, x, s, y, g, gX, hN, h1, hg, hgX, hs, hc, h4, hlk, hnf, hv1, hv0 => by
    obtain ⟨g, rfl⟩ : ∃ g', g = g' + 1 := ⟨g - 1, by omega⟩
    obtain ⟨gX, rfl⟩ : ∃ g', gX = g' + 1 := ⟨gX - 1, by omega⟩
    obtain ⟨l, rfl⟩ : ∃ l, m = l + 1 := ⟨m - 1, by omega⟩
    rw [Nat.add_sub_cancel] at hlk hv1 hv0
    have hN1 := hs.1
    have hl1 := hs.2.1 (l + 1) (by omega)
    have hlen := cp_len hc (show l + 1 < N by omega)
    have hcp := hc.2 l (by omega)
    have hnf1 := hnf (l + 1) (Nat.le_refl _) (by omega)
    have hX := dkL_169_82 (nn := nn) (g := gX) (G := G) (nc := nc) (s := s) (x := y) (l := l + 1) (N := N) hN1.2.2.2.1 hN1.2.1 (by omega) rfl hl1.2.2.2.2.2 rfl hlen.2 (by
      rcases hlk with ⟨_, k0, _, _, _, _, _, a6, _⟩ | ⟨_, _, _, _, a4, _, _⟩
      · exact Or.inl a6
      · exact Or.inr a4)
    have hR := dkS_221 (nn := nn) (F := F) (l := l + 1) (v := v) (x := x) (p := p) (by omega) hl1.2.2.2.2.1 (show G 62 (l + 1) < 51 by have := hl1.2.2.2.2.2; omega) hlen.1 hlen.2 hnn
    have hR2 := hR.2 (fun j hj e => hnf1.2 j hj (cp_inj hs (by omega) hcp hj (by
      rcases hlk with ⟨v1, k0, a1, a2, a3, a4, _, _, _⟩ | ⟨v0, a0, a1, a2, _, _, _⟩
      · exact Or.inl ⟨v1, k0, a1, a2, a3, a4⟩
      · exact Or.inr ⟨v0, a1, a2⟩) e))
    have hd : dk_222_88 nn (g + 1) F p lv x v (l + 1) = dk_222_88b nn (dk_222_88 nn g) F p lv x v (l + 1) := rfl
    rw [hd]
    unfold dk_222_88b
    rw [if_neg (fun z => absurd ((wd_slt (by omega) (by omega)).mp z) (by omega)), hR2, hX]
    by_cases z : G 20 (G 62 (l + 1)) = 30
    · right
      have h209 : dk_209 F 3 p = some (0, pm_f F 3 p) := by
        unfold dk_209
        rw [if_pos h4, od_upS, od_upS]
        rfl
      rw [if_pos z, if_pos z, h209, od_bS, od_bS, od_letS, Nat.mod_eq_of_lt (show l + 1 + 1 < 4294967296 by omega)]
      have fr : ∀ c i, (c = 0 → i ≠ 4 ∧ i ≠ 5) → pm_f F 3 p c i = F c i := fun c i h => by
        unfold pm_f
        rw [wq_up_ne (fun z => (h z.1).2 z.2), wq_up_ne (fun z => (h z.1).1 z.2)]
      obtain ⟨H, d1, d2, d3, d4⟩ := rv_fault (nn := nn) (N := N) (p := p) (ls := lv) g (l + 1 + 1) (pm_f F 3 p) 0 0 ⟨by omega, by omega⟩ (by rw [fr 0 53 (by decide)]; exact hN1.2.2.1) hN1.2.1 hnn (by
        show ¬ wq_up (wq_up F 0 4 3) 0 5 p 0 4 = 0
        rw [wq_up_at (by decide), wq_up_same]
        decide) (fun j hj => by
        rw [fr 32 j (by omega), fr 15 (F 32 j) (by omega), (hs.2.1 j hj).2.2.2.2.1]
        have := cp_len hc hj
        exact ⟨(hs.2.1 j hj).2.2.2.2.2, by omega⟩)
      refine ⟨H, G, d1, rfl, ?_, ?_, fun c i c1 c2 c3 c4 => ?_, fun _ _ _ _ _ _ => rfl⟩
      · rw [d2]
        show wq_up (wq_up F 0 4 3) 0 5 p 0 4 = 3
        rw [wq_up_at (by decide), wq_up_same]
      · rw [d3]
        exact wq_up_same _ _ _ _
      · rw [d4 c i c1 c2 c3 (fun w => by have := c4 w; omega)]
        exact fr c i (fun w => by have := c4 w; omega)
    · rw [if_neg z, if_neg z, od_bS, od_letS, Nat.mod_eq_of_lt (show l + 1 + 1 < 4294967296 by omega)]
      have hf := hs.2.2.2.2.2.2.2
      have hcp2 := cp_add_ok hs hc (show l + 1 < N by omega) hlk (fun v0 => by
        rcases hlk with ⟨v1, _⟩ | ⟨_, _, a1, _⟩
        · omega
        · have := (cp_len hc (show l < N by omega)).2
          omega) hnf1.2 (by omega) hcl
      have frF : ∀ c i, c ≠ 15 → c ≠ 18 → c ≠ 19 → cap_add F (G 62 (l + 1)) (G 20 (G 62 (l + 1))) v x c i = F c i := fun c i c1 c2 c3 => by
        unfold cap_add
        rw [wq_up_cell c1, wq_up_cell c3, wq_up_cell c2]
      have frG : ∀ c i, c ≠ 20 → c ≠ 23 → c ≠ 66 → cap_addX G (G 62 (l + 1)) (G 20 (G 62 (l + 1))) (if s = 4294967295 then ev_oXor y 4294967295 else s) nc c i = G c i := fun c i c1 c2 c3 => by
        unfold cap_addX
        rw [wq_up_cell c1, wq_up_cell c3, wq_up_cell c2]
      have hsc2 : sc_ok N off voff ph (cap_add F (G 62 (l + 1)) (G 20 (G 62 (l + 1))) v x) ls (cap_addX G (G 62 (l + 1)) (G 20 (G 62 (l + 1))) (if s = 4294967295 then ev_oXor y 4294967295 else s) nc) cs := sc_ok_up hs ⟨frF 0 53 (by decide) (by decide) (by decide), frF 0 50 (by decide) (by decide) (by decide)⟩ (fun c c1 c2 => funext fun i => frF c i (by omega) (by omega) (by omega)) ⟨frG 59 8 (by decide) (by decide) (by decide), frG 59 3 (by decide) (by decide) (by decide)⟩ (fun c c1 c2 => funext fun i => frG c i (by omega) (by omega) (by omega)) ⟨Nat.le_refl _, fun _ _ => rfl⟩ ⟨Nat.le_refl _, fun _ _ => rfl⟩
      have h20 : ∀ i, cap_addX G (G 62 (l + 1)) (G 20 (G 62 (l + 1))) (if s = 4294967295 then ev_oXor y 4294967295 else s) nc 20 i = if i = G 62 (l + 1) then G 20 (G 62 (l + 1)) + 1 else G 20 i := fun i => by
        unfold cap_addX
        by_cases e : i = G 62 (l + 1)
        · rw [if_pos e, e, wq_up_same]
        · rw [if_neg e, wq_up_at e, wq_up_cell (by decide), wq_up_cell (by decide)]
      have h66 : ∀ i, cap_addX G (G 62 (l + 1)) (G 20 (G 62 (l + 1))) (if s = 4294967295 then ev_oXor y 4294967295 else s) nc 66 i = if i = 30 * G 62 (l + 1) + G 20 (G 62 (l + 1)) then nc else G 66 i := fun i => by
        unfold cap_addX
        rw [wq_up_cell (by decide)]
        by_cases e : i = 30 * G 62 (l + 1) + G 20 (G 62 (l + 1))
        · rw [if_pos e, e, wq_up_same]
        · rw [if_neg e, wq_up_at e, wq_up_cell (by decide)]
      have h62 : ∀ i, cap_addX G (G 62 (l + 1)) (G 20 (G 62 (l + 1))) (if s = 4294967295 then ev_oXor y 4294967295 else s) nc 62 i = G 62 i := fun i => frG 62 i (by decide) (by decide) (by decide)
      have hvc : ∀ j b, sc_vc off (cap_addX G (G 62 (l + 1)) (G 20 (G 62 (l + 1))) (if s = 4294967295 then ev_oXor y 4294967295 else s) nc) j b = sc_vc off G j b := fun j b => sc_vc_up (funext fun i => frG 60 i (by decide) (by decide) (by decide)) (funext fun i => frG 61 i (by decide) (by decide) (by decide))
      have ih := rv_append (p := p) (lv := lv) (nr := nr) hnn hcl d (l + 1 + 1) (cap_add F (G 62 (l + 1)) (G 20 (G 62 (l + 1))) v x) (cap_addX G (G 62 (l + 1)) (G 20 (G 62 (l + 1))) (if s = 4294967295 then ev_oXor y 4294967295 else s) nc) 0 (G 20 (G 62 (l + 1))) 4294967295 (G 20 (G 62 (l + 1))) g gX (by omega) (by omega) (by omega) (by omega) hsc2 hcp2 (by rw [frF 0 4 (by decide) (by decide) (by decide)]; exact h4) (by
        rw [Nat.add_sub_cancel]
        refine Or.inr ⟨rfl, by omega, ?_, ?_, rfl, rfl, ?_⟩
        · rw [h62, h20, if_pos rfl]
          exact Nat.lt_succ_self _
        · rw [h62, h66, if_pos rfl]
        · rw [hvc]
          exact hnf1.1) (fun j j1 j2 => by
        have h0 := hnf j (by omega) j2
        have hne : ¬ G 62 j = G 62 (l + 1) := fun e => by
          have := hf (l + 1) j (by omega) j2
          omega
        refine ⟨by rw [hvc]; exact h0.1, fun k hk => ?_⟩
        rw [h62, h20, if_neg hne] at hk
        have h30 := (cp_len hc j2).2
        rw [h62, h66, if_neg (by omega)]
        exact h0.2 k hk) (fun w => absurd w (by decide)) (fun _ => by
        rw [Nat.add_sub_cancel]
        rcases hlk with ⟨v1, _⟩ | ⟨v0, _⟩
        · have := hv1 v1
          omega
        · have := hv0 v0
          omega)
      rcases ih with ⟨H, A, B, C, d1, d2, d3, d4, d5, d6, d7, d8, d9, d10, d11⟩ | ⟨H, A, d1, d2, d3, d4, d5, d6⟩
      · left
        have h30 := hlen.2
        refine ⟨H, A, B, C, d1, d2, d3, d4, fun c i c1 c2 c3 c4 => ?_, fun c i c1 c2 c3 c4 => ?_, d7, d8, d9, ?_, ?_⟩
        · rw [d5 c i c1 c2 c3 c4]
          exact frF c i c1 c2 c3
        · rw [d6 c i c1 c2 c3 c4]
          exact frG c i c1 c2 c3
        · intro g hgl
          have hne : ¬ g = G 62 (l + 1) := fun e => hgl (l + 1) (by omega) e.symm
          obtain ⟨⟨p1, p2⟩, p3⟩ := d10 g (fun j hj e => hgl j hj ((h62 j).symm.trans e))
          refine ⟨⟨p1.trans ?_, p2.trans ?_⟩, fun k hk => ?_⟩
          · unfold cap_add
            rw [wq_up_at hne, wq_up_cell (by decide), wq_up_cell (by decide)]
          · rw [h20, if_neg hne]
          · obtain ⟨p4, p5, p6⟩ := p3 k hk
            have hne2 : ¬ 30 * g + k = 30 * G 62 (l + 1) + G 20 (G 62 (l + 1)) := by omega
            refine ⟨p4.trans ?_, p5.trans ?_, p6.trans ?_⟩
            · unfold cap_add
              rw [wq_up_cell (by decide), wq_up_cell (by decide), wq_up_at hne2]
            · unfold cap_add
              rw [wq_up_cell (by decide), wq_up_at hne2, wq_up_cell (by decide)]
            · unfold cap_addX
              rw [wq_up_cell (by decide), wq_up_cell (by decide), wq_up_at hne2]
        · intro g
          refine Nat.le_trans ?_ (d11 g)
          unfold cap_add
          by_cases e : g = G 62 (l + 1)
          · rw [e, wq_up_same, hlen.1]
            exact Nat.le_succ _
          · rw [wq_up_at e, wq_up_cell (by decide), wq_up_cell (by decide)]
            exact Nat.le_refl _
      · right
        refine ⟨H, A, d1, d2, d3, d4, fun c i c1 c2 c3 c4 => ?_, fun c i c1 c2 c3 c4 => ?_⟩
        · rw [d5 c i c1 c2 c3 c4]
          exact frF c i c1 c2 c3
        · rw [d6 c i c1 c2 c3 c4]
          exact frG c i c1 c2 c3
/-- the reference passes levels that have captured the name already -/
theorem rv_exist {nn N p lv nc : Nat} {off voff ph : Nat → Nat} {ls cs : List (List Nat)} {F G : wq_F} (hnn : 30 < nn) (hs : sc_ok N off voff ph F ls G cs) (hc : cp_ok N off voff ph F G cs) : ∀ d m : Nat, ∀ (v x s y g : Nat), m + d ≤ N → 1 ≤ m → lk_at off voff ph F G nc (m - 1) v x s y → (∀ j, m ≤ j → j < m + d → sc_vc off G j nc = none ∧ ∃ k, k < G 20 (G 62 j) ∧ G 66 (30 * G 62 j + k) = nc) →
    ∃ v' x' s' y', lk_at off voff ph F G nc (m + d - 1) v' x' s' y' ∧ dk_222_88 nn (g + d) F p lv x v m = dk_222_88 nn g F p lv x' v' (m + d) ∧ (0 < d → v' = 0)
  | 0, m, v, x, s, y, g, _, _, hlk, _ => ⟨v, x, s, y, hlk, rfl, fun h => absurd h (Nat.lt_irrefl _)⟩
  | d + 1, m, v, x, s, y, g, h1, h2, hlk, hj => by
    obtain ⟨l, rfl⟩ : ∃ l, m = l + 1 := ⟨m - 1, by omega⟩
    rw [Nat.add_sub_cancel] at hlk
    have hN1 := hs.1
    have hl1 := hs.2.1 (l + 1) (by omega)
    have hlen := cp_len hc (show l + 1 < N by omega)
    have hcp := hc.2 l (by omega)
    obtain ⟨j1, k, k1, k2⟩ := hj (l + 1) (Nat.le_refl _) (by omega)
    have hR := dkS_221 (nn := nn) (F := F) (l := l + 1) (v := v) (x := x) (p := p) (by omega) hl1.2.2.2.2.1 (show G 62 (l + 1) < 51 by have := hl1.2.2.2.2.2; omega) hlen.1 hlen.2 hnn
    obtain ⟨c1, c2, c3⟩ := hcp.2.2.2 k k1
    rw [k2] at c2 c3
    have hpair : F 18 (30 * G 62 (l + 1) + k) = v ∧ F 19 (30 * G 62 (l + 1) + k) = x := by
      rcases hlk with ⟨v1, k0, a1, a2, a3, a4, a5, a6, a7⟩ | ⟨v0, a0, a1, a2, a3, a4, a5⟩
      · obtain ⟨k', b1, b2, b3, b4, b5, b6⟩ := c2 _ a7
        have hmn := sc_mono (f := voff) (N := N) (fun l hl => (hs.2.1 l hl).2.1) (show l + 1 ≤ N by omega) (Nat.le_refl _)
        have : k' = k0 := by
          have hph := hs.2.2.2.1
          by_cases w : k' = k0
          · exact w
          · exfalso
            by_cases w2 : k' < k0
            · have := hph k' k0 w2 (by omega)
              omega
            · have := hph k0 k' (by omega) (by omega)
              omega
        rw [this] at b5
        exact ⟨b4.trans v1.symm, b5.trans a3.symm⟩
      · obtain ⟨b1, b2, b3, b4, b5⟩ := c3 a5
        refine ⟨b2.trans v0.symm, ?_⟩
        obtain ⟨q, rfl⟩ : ∃ q, l = q + 1 := ⟨l - 1, by omega⟩
        have hd := (hc.2 q (by omega)).2.2.1
        by_cases w : F 19 (30 * G 62 (q + 1 + 1) + k) = x
        · exact w
        · exfalso
          by_cases w2 : F 19 (30 * G 62 (q + 1 + 1) + k) < x
          · exact hd _ _ w2 a1 (b4.trans a2.symm)
          · exact hd _ _ (show x < F 19 (30 * G 62 (q + 1 + 1) + k) by omega) b3 (a2.trans b4.symm)
    have hR1 := hR.1 k k1 hpair.1 hpair.2 (fun i hi e => by
      have e2 := cp_inj hs (by omega) hcp (show i < G 20 (G 62 (l + 1)) by omega) (nc := nc) (by
        rcases hlk with ⟨v1, k0, a1, a2, a3, a4, _, _, _⟩ | ⟨v0, a0, a1, a2, _, _, _⟩
        · exact Or.inl ⟨v1, k0, a1, a2, a3, a4⟩
        · exact Or.inr ⟨v0, a1, a2⟩) e
      exact hcp.2.2.1 i k hi k1 (e2.trans k2.symm))
    have hd : dk_222_88 nn (g + (d + 1)) F p lv x v (l + 1) = dk_222_88b nn (dk_222_88 nn (g + d)) F p lv x v (l + 1) := rfl
    have hst : dk_222_88 nn (g + (d + 1)) F p lv x v (l + 1) = dk_222_88 nn (g + d) F p lv k 0 (l + 1 + 1) := by
      rw [hd]
      unfold dk_222_88b
      rw [if_neg (fun z => absurd ((wd_slt (by omega) (by omega)).mp z) (by omega)), hR1, od_bS, od_letS, Nat.mod_eq_of_lt (show l + 1 + 1 < 4294967296 by omega)]
    obtain ⟨v', x', s', y', r1, r2, r3⟩ := rv_exist (p := p) (lv := lv) hnn hs hc d (l + 1 + 1) 0 k 4294967295 k g (by omega) (by omega) (by
      rw [Nat.add_sub_cancel]
      exact Or.inr ⟨rfl, by omega, k1, k2, rfl, rfl, j1⟩) (fun j h3 h4 => hj j (by omega) (by omega))
    rw [show l + 1 + (d + 1) = l + 1 + 1 + d by omega]
    refine ⟨v', x', s', y', r1, hst.trans r2, fun _ => ?_⟩
    by_cases w : 0 < d
    · exact r3 w
    · have hd0 : d = 0 := by omega
      subst hd0
      rcases r1 with ⟨v1, k0, _, _, _, _, _, _, a7⟩ | ⟨v0, _⟩
      · rw [show l + 1 + 1 + 0 - 1 = l + 1 by omega, j1] at a7
        cases a7
      · exact v0
