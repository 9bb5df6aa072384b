/-! ===== 99c: resolve() on both sides together (wip/whole2/99c.txt) ===== -/
theorem cp_ok_up {N : Nat} {off voff ph : Nat → Nat} {F F1 G G1 : wq_F} {cs cs1 : List (List Nat)} (h : cp_ok N off voff ph F G cs) (hF : F1 15 = F 15 ∧ F1 18 = F 18 ∧ F1 19 = F 19 ∧ F1 30 = F 30) (hG : G1 20 = G 20 ∧ G1 23 = G 23 ∧ G1 60 = G 60 ∧ G1 61 = G 61 ∧ G1 62 = G 62 ∧ G1 66 = G 66) (hcs : cs.length ≤ cs1.length) : cp_ok N off voff ph F1 G1 cs1 := by
  obtain ⟨f1, f2, f3, f4⟩ := hF
  obtain ⟨g1, g2, g3, g4, g5, g6⟩ := hG
  have vc : ∀ l b, sc_vc off G1 l b = sc_vc off G l b := fun l b => sc_vc_up g3 g4
  unfold cp_ok cp_at at h ⊢
  rw [f1, f2, f3, f4, g1, g2, g4, g5, g6]
  refine ⟨h.1, fun l hl => ?_⟩
  obtain ⟨c1, c2, c3, c4⟩ := h.2 l hl
  refine ⟨c1, c2, c3, fun k hk => ?_⟩
  obtain ⟨d1, d2, d3⟩ := c4 k hk
  rw [vc]
  exact ⟨by omega, d2, d3⟩
/-- a captured name comes from a level below -/
theorem rv_chain {N : Nat} {off voff ph : Nat → Nat} {F G : wq_F} {cs : List (List Nat)} {nc : Nat} (hc : cp_ok N off voff ph F G cs) : ∀ l : Nat, l < N → sc_vc off G l nc = none → (∃ k, k < G 20 (G 62 l) ∧ G 66 (30 * G 62 l + k) = nc) → ∃ q i, q < l ∧ sc_vc off G q nc = some i ∧ ∀ j, q < j → j ≤ l → sc_vc off G j nc = none ∧ ∃ k, k < G 20 (G 62 j) ∧ G 66 (30 * G 62 j + k) = nc
  | 0, _, _, ⟨k, k1, _⟩ => by
    have := hc.1.2
    omega
  | l + 1, hl, hv, ⟨k, k1, k2⟩ => by
    obtain ⟨c1, c2, c3⟩ := (hc.2 l hl).2.2.2 k k1
    rw [k2] at c2 c3
    cases ho : sc_vc off G l nc with
    | some i =>
      refine ⟨l, i, Nat.lt_succ_self _, ho, fun j h1 h2 => ?_⟩
      have e : j = l + 1 := by omega
      rw [e]
      exact ⟨hv, k, k1, k2⟩
    | none =>
      obtain ⟨b1, b2, b3, b4, b5⟩ := c3 ho
      obtain ⟨q, i, q1, q2, q3⟩ := rv_chain hc l (by omega) ho ⟨_, b3, b4⟩
      refine ⟨q, i, by omega, q2, fun j h1 h2 => ?_⟩
      by_cases e : j = l + 1
      · rw [e]
        exact ⟨hv, k, k1, k2⟩
      · exact q3 j h1 (by omega)
/-- both sides find what a name means; or both find too many captured -/
theorem rv_both {nn N n nr nc p : Nat} {off voff ph : Nat → Nat} {ls cs : List (List Nat)} {F G : wq_F} (hnn : 1700 < nn) (hs : sc_ok N off voff ph F ls G cs) (hc : cp_ok N off voff ph F G cs) (hR : rs_ok F ls) (hX : cs_ok G cs) (hr : nr < ls.length) (hcl : nc < cs.length) (hnm : ls.getD nr [] = cs.getD nc []) (h4 : F 0 4 = 0) (hF2 : F 0 2 = n) (hn6 : n ≤ 6000) (hp : p ≤ n) :
    (∃ H A B C, dk_222 nn F nr p = some (0, H) ∧ dk_169 nn G nc = some (1, A) ∧ sc_ok N off voff ph B ls C cs ∧ cp_ok N off voff ph B C cs ∧ H 0 63 = 1 + lc (F 1) p ∧ (∀ c i, c ≠ 15 → c ≠ 18 → c ≠ 19 → (c = 0 → i ≠ 61 ∧ i ≠ 62 ∧ i ≠ 63) → H c i = F c i) ∧ rv_frG G A ∧ (∀ c, c ≠ 0 → H c = B c) ∧ (∀ c, c ≠ 59 → A c = C c) ∧ rv_end N off voff ph B C nr nc H A ∧ rv_kp N F G H A) ∨
    (∃ H A, dk_222 nn F nr p = some (0, H) ∧ dk_169 nn G nc = some (0, A) ∧ H 0 4 = 3 ∧ H 0 5 = p ∧ (∀ c i, c ≠ 15 → c ≠ 18 → c ≠ 19 → (c = 0 → i ≠ 4 ∧ i ≠ 5 ∧ i ≠ 61 ∧ i ≠ 62 ∧ i ≠ 63) → H c i = F c i) ∧ rv_frG G A) := by
  have hN1 := hs.1
  have fr : ∀ c i, (c = 0 → i ≠ 63) → wq_up F 0 63 (1 + lc (F 1) p) c i = F c i := fun c i h => wq_up_ne (fun z => h z.1 z.2)
  have hs5 : sc_ok N off voff ph (wq_up F 0 63 (1 + lc (F 1) p)) ls G cs := sc_ok_up hs ⟨fr 0 53 (by decide), fr 0 50 (by decide)⟩ (fun c c1 c2 => funext fun i => fr c i (by omega)) ⟨rfl, rfl⟩ (fun c _ _ => rfl) ⟨Nat.le_refl _, fun _ _ => rfl⟩ ⟨Nat.le_refl _, fun _ _ => rfl⟩
  have hc5 : cp_ok N off voff ph (wq_up F 0 63 (1 + lc (F 1) p)) G cs := cp_ok_up hc ⟨funext fun i => fr 15 i (by omega), funext fun i => fr 18 i (by omega), funext fun i => fr 19 i (by omega), funext fun i => fr 30 i (by omega)⟩ ⟨rfl, rfl, rfl, rfl, rfl, rfl⟩ (Nat.le_refl _)
  have hR5 : rs_ok (wq_up F 0 63 (1 + lc (F 1) p)) ls := rs_ok_f hR (by decide) (by decide)
  have h45 : wq_up F 0 63 (1 + lc (F 1) p) 0 4 = 0 := by rw [fr 0 4 (by decide)]; exact h4
  have hd : dk_222 nn F nr p = dk_222_14 nn nn (wq_up F 0 63 (1 + lc (F 1) p)) nr p ((N + 4294967295) % 4294967296) := by
    unfold dk_222
    rw [dkS_196 hF2 hn6 hp, od_bS, od_upS, fr 0 53 (by decide), show (N + 4294967295) % 4294967296 = F 0 53 by omega]
  have hdX : dk_169 nn G nc = dk_169_10 nn nn G nc ((N + 4294967295) % 4294967296) 4294967295 4294967295 := by
    unfold dk_169
    rw [show (N + 4294967295) % 4294967296 = G 59 8 by omega]
  rw [hd, hdX]
  have h63 : wq_up F 0 63 (1 + lc (F 1) p) 0 63 = 1 + lc (F 1) p := wq_up_same _ _ _ _
  generalize wq_up F 0 63 (1 + lc (F 1) p) = E at *
  have vis : ∀ l, l < N → sc_vc off G l nc = (sc_vr voff E l nr).map ph := fun l hl => sc_vis hs5 hR5 hX hl hr hcl hnm
  have visn : ∀ l, l < N → (sc_vc off G l nc = none ↔ sc_vr voff E l nr = none) := fun l hl => by
    rw [vis l hl]
    cases sc_vr voff E l nr with
    | none => exact ⟨fun _ => rfl, fun _ => rfl⟩
    | some k => exact ⟨fun h => (by cases h), fun h => (by cases h)⟩
  have both : ∀ (l m : Nat) (v x s y g : Nat), m = l + 1 → l < N → N < g → lk_at off voff ph E G nc l v x s y → nf_at N off G nc m → ∀ lv, (v = 1 → lv = l) → (v = 0 → lv < l) → dk_222_14 nn nn E nr p ((N + 4294967295) % 4294967296) = dk_222_88 nn g E p lv x v m → dk_169_10 nn nn G nc ((N + 4294967295) % 4294967296) 4294967295 4294967295 = dk_169_82 nn nn G nc s y m →
    (∃ H A B C, dk_222_14 nn nn E nr p ((N + 4294967295) % 4294967296) = some (0, H) ∧ dk_169_10 nn nn G nc ((N + 4294967295) % 4294967296) 4294967295 4294967295 = some (1, A) ∧ sc_ok N off voff ph B ls C cs ∧ cp_ok N off voff ph B C cs ∧ H 0 63 = 1 + lc (F 1) p ∧ (∀ c i, c ≠ 15 → c ≠ 18 → c ≠ 19 → (c = 0 → i ≠ 61 ∧ i ≠ 62 ∧ i ≠ 63) → H c i = F c i) ∧ rv_frG G A ∧ (∀ c, c ≠ 0 → H c = B c) ∧ (∀ c, c ≠ 59 → A c = C c) ∧ rv_end N off voff ph B C nr nc H A ∧ rv_kp N F G H A) ∨
    (∃ H A, dk_222_14 nn nn E nr p ((N + 4294967295) % 4294967296) = some (0, H) ∧ dk_169_10 nn nn G nc ((N + 4294967295) % 4294967296) 4294967295 4294967295 = some (0, A) ∧ H 0 4 = 3 ∧ H 0 5 = p ∧ (∀ c i, c ≠ 15 → c ≠ 18 → c ≠ 19 → (c = 0 → i ≠ 4 ∧ i ≠ 5 ∧ i ≠ 61 ∧ i ≠ 62 ∧ i ≠ 63) → H c i = F c i) ∧ rv_frG G A) := fun l m v x s y g hm hl hg hlk hnf lv hv1 hv0 e1 e2 => by
    subst hm
    rw [e1, e2]
    rcases rv_append (p := p) (lv := lv) (nr := nr) (show 30 < nn by omega) hcl (N - (l + 1)) (l + 1) E G v x s y g nn (by omega) (by omega) (by omega) (by omega) hs5 hc5 h45 (by rw [Nat.add_sub_cancel]; exact hlk) hnf (by rw [Nat.add_sub_cancel]; exact hv1) (by rw [Nat.add_sub_cancel]; exact hv0) with ⟨H, A, B, C, d1, d2, d3, d4, d5, d6, d7, d8, d9, d10, d11⟩ | ⟨H, A, d1, d2, d3, d4, d5, d6⟩
    · left
      refine ⟨H, A, B, C, d1, d2, d3, d4, ?_, fun c i c1 c2 c3 c4 => ?_, d6, d7, d8, d9, fun g hgl => ?_, fun g => ?_⟩
      · rw [d5 0 63 (by decide) (by decide) (by decide) (by decide)]
        exact h63
      · rw [d5 c i c1 c2 c3 (fun w => by have := c4 w; omega)]
        exact fr c i (fun w => by have := c4 w; omega)
      · obtain ⟨⟨p1, p2⟩, p3⟩ := d10 g hgl
        exact ⟨⟨p1.trans (fr 15 g (by omega)), p2⟩, fun k hk => ⟨(p3 k hk).1.trans (fr 18 _ (by omega)), (p3 k hk).2.1.trans (fr 19 _ (by omega)), (p3 k hk).2.2⟩⟩
      · rw [← fr 15 g (by omega)]
        exact d11 g
    · right
      refine ⟨H, A, d1, d2, d3, d4, fun c i c1 c2 c3 c4 => ?_, d6⟩
      rw [d5 c i c1 c2 c3 (fun w => by have := c4 w; omega)]
      exact fr c i (fun w => by have := c4 w; omega)
  have hX3 := dkL_169 (nn := nn) (nc := nc) (by omega) hs5 hc5 nn N (Nat.le_refl _) (by omega)
  have hR3 := dkL_222 (nn := nn) (nr := nr) (p := p) (by omega) hs5 nn N (Nat.le_refl _) (by omega)
  rcases hX3 with ⟨x1, x2⟩ | ⟨l, i, l0, x1, x2, x3⟩ | ⟨l, k, l0, x1, x2, x3, x4, x5⟩
  · rcases hR3 with ⟨r1, r2⟩ | ⟨l', k', l0', r1, r2, r3⟩
    · left
      refine ⟨_, _, E, G, r1, x1, hs5, hc5, ?_, fun c i c1 c2 c3 c4 => ?_, fun c i c1 c2 c3 c4 => ?_, fun c c0 => ?_, fun c c0 => ?_, Or.inl ⟨?_, ?_, ?_, ?_⟩, fun g _ => ⟨⟨?_, ?_⟩, fun k _ => ⟨?_, ?_, ?_⟩⟩, fun g => ?_⟩
      · rw [wq_up_at (by decide), wq_up_at (by decide)]
        exact h63
      · rw [wq_up_ne (fun z => by have := c4 z.1; omega), wq_up_ne (fun z => by have := c4 z.1; omega)]
        exact fr c i (fun w => by have := c4 w; omega)
      · rw [wq_up_ne (fun z => by have := c4 z.1; omega), wq_up_ne (fun z => by have := c4 z.1; omega)]
      · funext i
        rw [wq_up_cell c0, wq_up_cell c0]
      · funext i
        rw [wq_up_cell c0, wq_up_cell c0]
      · rw [wq_up_at (by decide), wq_up_same]
      · rw [wq_up_same]
      · rw [wq_up_at (by decide), wq_up_same]
      · rw [wq_up_same]
      · rw [wq_up_cell (by decide), wq_up_cell (by decide)]
        exact fr 15 g (by omega)
      · rw [wq_up_cell (by decide), wq_up_cell (by decide)]
      · rw [wq_up_cell (by decide), wq_up_cell (by decide)]
        exact fr 18 _ (by omega)
      · rw [wq_up_cell (by decide), wq_up_cell (by decide)]
        exact fr 19 _ (by omega)
      · rw [wq_up_cell (by decide), wq_up_cell (by decide)]
      · rw [wq_up_cell (by decide), wq_up_cell (by decide), fr 15 g (by omega)]
        exact Nat.le_refl _
    · exfalso
      have := (visn l' l0').mp (x2 l' l0').1
      rw [this] at r2
      cases r2
  · have hvr : ∃ k0, sc_vr voff E l nr = some k0 ∧ ph k0 = i := by
      have hv := vis l l0
      rw [x2] at hv
      cases ho : sc_vr voff E l nr with
      | none =>
        rw [ho] at hv
        cases hv
      | some k0 =>
        rw [ho] at hv
        cases hv
        exact ⟨k0, rfl, rfl⟩
    obtain ⟨k0, v1, v2⟩ := hvr
    rcases hR3 with ⟨r1, r2⟩ | ⟨l', k', l0', r1, r2, r3⟩
    · exfalso
      rw [r2 l l0] at v1
      cases v1
    · have el : l' = l := by
        by_cases z : l' = l
        · exact z
        · exfalso
          by_cases z2 : l' < l
          · rw [r3 l z2 l0] at v1
            cases v1
          · have := (visn l' l0').mp (x3 l' (by omega) l0').1
            rw [this] at r2
            cases r2
      subst el
      rw [v1] at r2
      cases r2
      have hk := lx_lst_some v1
      have hk2 := of_decide_eq_true hk.2
      have hi := of_decide_eq_true (lx_lst_some x2).2
      refine both l' (l' + 1) 1 (E 30 k0) (G 61 i) 4294967295 nn rfl l0 (by omega) (Or.inl ⟨rfl, k0, hk2.1, hk.1, rfl, by rw [v2]; exact hi.2.1, by rw [v2], sc_vc_lt hs5 l0 x2, by rw [v2]; exact x2⟩) (fun j h1 h2 => x3 j (by omega) h2) l' (fun _ => rfl) (fun w => absurd w (by decide)) r1 x1
  · obtain ⟨q, i, q1, q2, q3⟩ := rv_chain hc5 l l0 x2 ⟨k, x3, x4⟩
    have hvr : ∃ k0, sc_vr voff E q nr = some k0 ∧ ph k0 = i := by
      have hv := vis q (by omega)
      rw [q2] at hv
      cases ho : sc_vr voff E q nr with
      | none =>
        rw [ho] at hv
        cases hv
      | some k0 =>
        rw [ho] at hv
        cases hv
        exact ⟨k0, rfl, rfl⟩
    obtain ⟨k0, v1, v2⟩ := hvr
    have above : ∀ j, q < j → j < N → sc_vc off G j nc = none := fun j h1 h2 => by
      by_cases z : j ≤ l
      · exact (q3 j h1 z).1
      · exact (x5 j (by omega) h2).1
    rcases hR3 with ⟨r1, r2⟩ | ⟨l', k', l0', r1, r2, r3⟩
    · exfalso
      rw [r2 q (by omega)] at v1
      cases v1
    · have el : l' = q := by
        by_cases z : l' = q
        · exact z
        · exfalso
          by_cases z2 : l' < q
          · rw [r3 q z2 (by omega)] at v1
            cases v1
          · have := (visn l' l0').mp (above l' (by omega) l0')
            rw [this] at r2
            cases r2
      subst el
      rw [v1] at r2
      cases r2
      have hk := lx_lst_some v1
      have hk2 := of_decide_eq_true hk.2
      have hi := of_decide_eq_true (lx_lst_some q2).2
      obtain ⟨v', x', s', y', e1, e2, e3⟩ := rv_exist (nn := nn) (p := p) (lv := l') (show 30 < nn by omega) hs5 hc5 (l - l') (l' + 1) 1 (E 30 k0) (G 61 i) 4294967295 (nn - (l - l')) (by omega) (by omega) (by
        rw [Nat.add_sub_cancel]
        exact Or.inl ⟨rfl, k0, hk2.1, hk.1, rfl, by rw [v2]; exact hi.2.1, by rw [v2], sc_vc_lt hs5 (by omega) q2, by rw [v2]; exact q2⟩) (fun j h1 h2 => q3 j (by omega) (by omega))
      have hv0 := e3 (by omega)
      rw [show l' + 1 + (l - l') - 1 = l by omega] at e1
      rw [show l' + 1 + (l - l') = l + 1 by omega, show nn - (l - l') + (l - l') = nn by omega] at e2
      have e1' := e1
      rcases e1 with ⟨w, _⟩ | ⟨_, a1, a2, a3, a4, a5, a6⟩
      · omega
      · have hxk : x' = k := by
          obtain ⟨t, rfl⟩ : ∃ t, l = t + 1 := ⟨l - 1, by omega⟩
          have hdd := (hc5.2 t (by omega)).2.2.1
          by_cases z : x' = k
          · exact z
          · exfalso
            by_cases z2 : x' < k
            · exact hdd _ _ z2 x3 (a3.trans x4.symm)
            · exact hdd _ _ (show k < x' by omega) a2 (x4.trans a3.symm)
        subst hv0
        refine both l (l + 1) 0 x' s' y' (nn - (l - l')) rfl l0 (by omega) e1' (fun j h1 h2 => x5 j (by omega) h2) l' (fun w => absurd w (by decide)) (fun _ => q1) (r1.trans e2) ?_
        rw [a4, a5, hxk]
        exact x1
