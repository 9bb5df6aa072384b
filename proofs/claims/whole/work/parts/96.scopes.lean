/-! ===== 96: which names are known: both parsers' scopes; slotOf, capturedOf (wip/whole2/96.txt) ===== -/
/-- N levels; the class's entries of level l: off l to off (l + 1), the reference's: voff l to voff (l + 1); ph: where a known one stands in the class's row -/
def sc_ok (N : Nat) (off voff ph : Nat → Nat) (F : wq_F) (ls : List (List Nat)) (G : wq_F) (cs : List (List Nat)) : Prop :=
  (1 ≤ N ∧ N ≤ 24 ∧ F 0 53 + 1 = N ∧ G 59 8 + 1 = N ∧ off 0 = 0 ∧ voff 0 = 0 ∧ G 59 3 = off N ∧ F 0 50 = voff N ∧ off N ≤ 1200) ∧
  (∀ l, l < N → off l ≤ off (l + 1) ∧ voff l ≤ voff (l + 1) ∧ G 63 l = off l ∧ F 31 l = voff l ∧ F 32 l = G 62 l ∧ G 62 l < 50) ∧
  (∀ k, k < voff N → ph k < off N ∧ G 61 (ph k) < 2147483648 ∧ F 29 k < ls.length ∧ G 60 (ph k) < cs.length ∧ ls.getD (F 29 k) [] = cs.getD (G 60 (ph k)) []) ∧
  (∀ j k, j < k → k < voff N → ph j < ph k) ∧
  (∀ i, i < off N → ¬ G 61 i = 4294967295 → ∃ k, k < voff N ∧ ph k = i) ∧
  (∀ l k, l < N → k < voff N → ((voff l ≤ k ∧ k < voff (l + 1)) ↔ (off l ≤ ph k ∧ ph k < off (l + 1)))) ∧
  (∀ l j k, l < N → voff l ≤ j → j < k → k < voff (l + 1) → ¬ F 30 j = F 30 k) ∧
  (∀ l m, l < m → m < N → G 62 l < G 62 m)
theorem sc_mono {f : Nat → Nat} {N : Nat} (h : ∀ l, l < N → f l ≤ f (l + 1)) : ∀ {a b : Nat}, a ≤ b → b ≤ N → f a ≤ f b
  | a, 0, h1, _ => by
    have : a = 0 := by omega
    rw [this]
    exact Nat.le_refl _
  | a, b + 1, h1, h2 => by
    by_cases e : a = b + 1
    · rw [e]; exact Nat.le_refl _
    · exact Nat.le_trans (sc_mono h (show a ≤ b by omega) (by omega)) (h b (by omega))
/-- the latest entry of a level with a name, on both sides -/
def sc_vc (off : Nat → Nat) (G : wq_F) (l nc : Nat) : Option Nat := lx_lst (fun i => decide (off l ≤ i ∧ G 60 i = nc ∧ ¬ G 61 i = 4294967295)) (off (l + 1))
def sc_vr (voff : Nat → Nat) (F : wq_F) (l nr : Nat) : Option Nat := lx_lst (fun k => decide (voff l ≤ k ∧ F 29 k = nr)) (voff (l + 1))
theorem lx_lst_max {q : Nat → Bool} : ∀ {m s : Nat}, lx_lst q m = some s → ∀ t, s < t → t < m → q t = false
  | 0, s, h, _, _, _ => by cases h
  | m + 1, s, h, t, h1, h2 => by
    cases hq : q m
    · rw [lx_lst_f hq] at h
      by_cases e : t = m
      · rw [e]; exact hq
      · exact lx_lst_max h t h1 (by omega)
    · rw [lx_lst_t hq] at h
      cases h
      omega
theorem lx_lst_is {q : Nat → Bool} : ∀ {m s : Nat}, s < m → q s = true → (∀ t, s < t → t < m → q t = false) → lx_lst q m = some s
  | 0, s, h, _, _ => absurd h (Nat.not_lt_zero _)
  | m + 1, s, h, hs, ht => by
    by_cases e : s = m
    · subst e
      exact lx_lst_t hs
    · rw [lx_lst_f (ht m (by omega) (Nat.lt_succ_self _))]
      exact lx_lst_is (by omega) hs (fun t h1 h2 => ht t h1 (by omega))
/-- two names are the same on both sides -/
theorem nm_same {ls cs : List (List Nat)} {F G : wq_F} (hR : rs_ok F ls) (hX : cs_ok G cs) {a b c d : Nat} (ha : a < ls.length) (hb : b < ls.length) (hc : c < cs.length) (hd : d < cs.length) (h1 : ls.getD a [] = cs.getD c []) (h2 : ls.getD b [] = cs.getD d []) : a = b ↔ c = d := by
  have n1 := hR.2.2.2.2.2.2
  have n2 := hX.2.2.1.2.2.2.2
  constructor
  · intro e
    subst e
    by_cases z : c = d
    · exact z
    · exfalso
      by_cases z2 : c < d
      · exact n2 c d z2 hd (h1.symm.trans h2)
      · exact n2 d c (by omega) hc (h2.symm.trans h1)
  · intro e
    subst e
    by_cases z : a = b
    · exact z
    · exfalso
      by_cases z2 : a < b
      · exact n1 a b z2 hb (h1.trans h2.symm)
      · exact n1 b a (by omega) ha (h2.trans h1.symm)
/-- both sides find the same entry -/
theorem sc_vis {N : Nat} {off voff ph : Nat → Nat} {F G : wq_F} {ls cs : List (List Nat)} (hs : sc_ok N off voff ph F ls G cs) (hR : rs_ok F ls) (hX : cs_ok G cs) {nr nc l : Nat} (hl : l < N) (hr : nr < ls.length) (hc : nc < cs.length) (hn : ls.getD nr [] = cs.getD nc []) : sc_vc off G l nc = (sc_vr voff F l nr).map ph := by
  obtain ⟨s1, s2, s3, s4, s5, s6, s7, s8⟩ := hs
  have mv := sc_mono (f := voff) (N := N) (fun l hl => (s2 l hl).2.1) (show l + 1 ≤ N by omega) (Nat.le_refl _)
  have mo := sc_mono (f := off) (N := N) (fun l hl => (s2 l hl).1) (show l + 1 ≤ N by omega) (Nat.le_refl _)
  have eqn : ∀ k, k < voff N → (F 29 k = nr ↔ G 60 (ph k) = nc) := fun k hk => by
    obtain ⟨a1, a2, a3, a4, a5⟩ := s3 k hk
    exact nm_same hR hX a3 hr a4 hc a5 hn
  unfold sc_vc sc_vr
  cases ho : lx_lst (fun k => decide (voff l ≤ k ∧ F 29 k = nr)) (voff (l + 1)) with
  | none =>
    refine lx_lst_no (fun i hi => decide_eq_false (fun z => ?_))
    obtain ⟨k, hk, e⟩ := s5 i (by omega) z.2.2
    have h1 := (s6 l k hl hk).mpr ⟨by omega, by omega⟩
    have h2 := lx_lst_none ho k h1.2
    have h3 : voff l ≤ k ∧ F 29 k = nr := ⟨h1.1, (eqn k hk).mpr (by rw [e]; exact z.2.1)⟩
    rw [decide_eq_true h3] at h2
    cases h2
  | some k =>
    have h1 := lx_lst_some ho
    have h2 := of_decide_eq_true h1.2
    have hk : k < voff N := by omega
    have h3 := (s6 l k hl hk).mp ⟨h2.1, h1.1⟩
    have h4 := s3 k hk
    refine lx_lst_is h3.2 (decide_eq_true ⟨h3.1, (eqn k hk).mp h2.2, by omega⟩) (fun i hi1 hi2 => decide_eq_false (fun z => ?_))
    obtain ⟨k', hk', e⟩ := s5 i (by omega) z.2.2
    have h5 := (s6 l k' hl hk').mpr ⟨by omega, by omega⟩
    have h6 : k < k' := by
      by_cases y : k < k'
      · exact y
      · exfalso
        by_cases y2 : k' = k
        · rw [y2] at e; omega
        · have := s4 k' k (by omega) hk
          omega
    have h7 := lx_lst_max ho k' h6 h5.2
    have h8 : voff l ≤ k' ∧ F 29 k' = nr := ⟨h5.1, (eqn k' hk').mpr (by rw [e]; exact z.2.1)⟩
    rw [decide_eq_true h8] at h7
    cases h7
/-- the class's slotOf -/
theorem dkL_170 {nn : Nat} {G : wq_F} {l nc a : Nat} (hl : l < 24) (ha : G 63 l = a) (ha2 : a ≤ 1200) : ∀ g m : Nat, m ≤ 1200 → m < g → dk_170_29 nn g G l nc ((m + 4294967295) % 4294967296) = some (match lx_lst (fun i => decide (a ≤ i ∧ G 60 i = nc ∧ ¬ G 61 i = 4294967295)) m with
    | some i => G 61 i
    | none => 4294967295, G)
  | 0, m, _, h => absurd h (Nat.not_lt_zero _)
  | g + 1, m, h1, h2 => by
    show dk_170_29b nn (dk_170_29 nn g) G l nc ((m + 4294967295) % 4294967296) = _
    unfold dk_170_29b
    rw [od_g1 hl, ha]
    by_cases q : m ≤ a
    · have hs : ev_s ((m + 4294967295) % 4294967296) < ev_s a := by
        unfold ev_s
        omega
      rw [if_pos hs, lx_lst_no (fun t ht => decide_eq_false (fun z => by omega))]
    · obtain ⟨k, rfl⟩ : ∃ k, m = k + 1 := ⟨m - 1, by omega⟩
      rw [show (k + 1 + 4294967295) % 4294967296 = k by omega, if_neg (fun z => absurd ((wd_slt (by omega) (by omega)).mp z) (by omega)), od_g1 (by omega)]
      by_cases b : G 60 k = nc
      · rw [if_pos b, od_g1 (by omega)]
        by_cases c : G 61 k = 4294967295
        · rw [if_pos c, od_letS, lx_lst_f (decide_eq_false (fun z => z.2.2 c))]
          exact dkL_170 hl ha ha2 g k (by omega) (by omega)
        · rw [if_neg c, od_g1 (by omega), lx_lst_t (decide_eq_true ⟨by omega, b, c⟩)]
      · rw [if_neg b, od_letS, lx_lst_f (decide_eq_false (fun z => b z.2.1))]
        exact dkL_170 hl ha ha2 g k (by omega) (by omega)
theorem dkS_170 {nn N : Nat} {off voff ph : Nat → Nat} {F G : wq_F} {ls cs : List (List Nat)} (hs : sc_ok N off voff ph F ls G cs) {l nc : Nat} (hl : l < N) (hn : 1200 < nn) : dk_170 nn G l nc = some (match sc_vc off G l nc with
    | some i => G 61 i
    | none => 4294967295, G) := by
  obtain ⟨⟨s1, s1b, s1c, s1d, s1e, s1f, s1g, s1h, s1i⟩, s2, _⟩ := hs
  have mo := sc_mono (f := off) (N := N) (fun l hl => (s2 l hl).1) (show l + 1 ≤ N by omega) (Nat.le_refl _)
  have ml := (s2 l hl).1
  have hr := dkL_170 (nn := nn) (G := G) (l := l) (nc := nc) (a := off l) (by omega) (s2 l hl).2.2.1 (by omega) nn (off (l + 1)) (by omega) (by omega)
  unfold dk_170
  by_cases q : l = G 59 8
  · have e : off (l + 1) = G 59 3 := by
      rw [s1g, show l + 1 = N by omega]
    rw [if_pos q, od_letS, ← e]
    exact hr
  · rw [if_neg q, Nat.mod_eq_of_lt (show l + 1 < 4294967296 by omega), od_g1 (by omega), od_letS, (s2 (l + 1) (by omega)).2.2.1]
    exact hr
/-- the class's capturedOf -/
theorem dkL_171 {nn : Nat} {G : wq_F} {f nc m : Nat} (hf : f < 50) (hm : G 20 f = m) (hm2 : m ≤ 30) : ∀ g k : Nat, k ≤ m → m - k < g →
    (∀ j, k ≤ j → j < m → G 66 (30 * f + j) = nc → (∀ i, k ≤ i → i < j → ¬ G 66 (30 * f + i) = nc) → dk_171_2 nn g G f nc k = some (j, G)) ∧
    ((∀ j, k ≤ j → j < m → ¬ G 66 (30 * f + j) = nc) → dk_171_2 nn g G f nc k = some (4294967295, G))
  | 0, k, _, h => absurd h (Nat.not_lt_zero _)
  | g + 1, k, h1, h2 => by
    have hd : dk_171_2 nn (g + 1) G f nc k = dk_171_2b nn (dk_171_2 nn g) G f nc k := rfl
    rw [hd]
    unfold dk_171_2b
    rw [od_g1 hf, hm]
    have hmul : ev_oMul f 30 = 30 * f := by
      unfold ev_oMul
      omega
    by_cases q : k < m
    · rw [if_pos ((wd_slt (by omega) (by omega)).mpr q), od_letS, hmul, Nat.mod_eq_of_lt (show 30 * f + k < 4294967296 by omega), od_g1 (by omega)]
      obtain ⟨i1, i2⟩ := dkL_171 (nn := nn) (nc := nc) hf hm hm2 g (k + 1) (by omega) (by omega)
      by_cases z : G 66 (30 * f + k) = nc
      · rw [if_pos z]
        refine ⟨fun j hj1 hj2 hj3 hj4 => ?_, fun h => absurd z (h k (Nat.le_refl _) q)⟩
        by_cases e : j = k
        · rw [e]
        · exact absurd z (hj4 k (Nat.le_refl _) (by omega))
      · rw [if_neg z, od_letS, Nat.mod_eq_of_lt (show k + 1 < 4294967296 by omega)]
        refine ⟨fun j hj1 hj2 hj3 hj4 => ?_, fun h => i2 (fun j hj1 hj2 => h j (by omega) hj2)⟩
        have : j ≠ k := fun e => z (by rw [← e]; exact hj3)
        exact i1 j (by omega) hj2 hj3 (fun i hi1 hi2 => hj4 i (by omega) hi2)
    · rw [if_neg (fun z => q ((wd_slt (by omega) (by omega)).mp z))]
      exact ⟨fun j hj1 hj2 _ _ => by omega, fun _ => rfl⟩
theorem dkS_171 {nn : Nat} {G : wq_F} {f nc m : Nat} (hf : f < 50) (hm : G 20 f = m) (hm2 : m ≤ 30) (hn : 30 < nn) : (∀ j, j < m → G 66 (30 * f + j) = nc → (∀ i, i < j → ¬ G 66 (30 * f + i) = nc) → dk_171 nn G f nc = some (j, G)) ∧ ((∀ j, j < m → ¬ G 66 (30 * f + j) = nc) → dk_171 nn G f nc = some (4294967295, G)) := by
  obtain ⟨i1, i2⟩ := dkL_171 (nn := nn) (nc := nc) hf hm hm2 nn 0 (Nat.zero_le _) (by omega)
  exact ⟨fun j h1 h2 h3 => i1 j (Nat.zero_le _) h1 h2 (fun i _ hi => h3 i hi), fun h => i2 (fun j _ hj => h j hj)⟩
