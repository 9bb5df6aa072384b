/-! ===== 99b: resolve() on both sides: the searches, and both together (wip/whole2/99b.txt) ===== -/
theorem sc_vc_lt {N : Nat} {off voff ph : Nat → Nat} {F G : wq_F} {ls cs : List (List Nat)} (hs : sc_ok N off voff ph F ls G cs) {l nc i : Nat} (hl : l < N) (h : sc_vc off G l nc = some i) : G 61 i < 2147483648 := by
  have h1 := lx_lst_some h
  have h2 := of_decide_eq_true h1.2
  have mo := sc_mono (f := off) (N := N) (fun l hl => (hs.2.1 l hl).1) (show l + 1 ≤ N by omega) (Nat.le_refl _)
  obtain ⟨k, k1, k2⟩ := hs.2.2.2.2.1 i (by omega) h2.2.2
  have := (hs.2.2.1 k k1).2.1
  rw [k2] at this
  exact this
/-- nothing of a name at a level -/
def no_at (off : Nat → Nat) (G : wq_F) (nc j : Nat) : Prop := sc_vc off G j nc = none ∧ ∀ k, k < G 20 (G 62 j) → ¬ G 66 (30 * G 62 j + k) = nc
/-- the class's search, from level m - 1 down -/
theorem dkL_169 {nn N : Nat} {off voff ph : Nat → Nat} {ls cs : List (List Nat)} {F G : wq_F} {nc : Nat} (hnn : 1200 < nn) (hs : sc_ok N off voff ph F ls G cs) (hc : cp_ok N off voff ph F G cs) : ∀ g m : Nat, m ≤ N → m < g →
    (dk_169_10 nn g G nc ((m + 4294967295) % 4294967296) 4294967295 4294967295 = some (1, wq_up (wq_up G 59 10 9) 59 11 nc) ∧ ∀ j, j < m → no_at off G nc j) ∨
    (∃ l i, l < m ∧ dk_169_10 nn g G nc ((m + 4294967295) % 4294967296) 4294967295 4294967295 = dk_169_82 nn nn G nc (G 61 i) 4294967295 (l + 1) ∧ sc_vc off G l nc = some i ∧ ∀ j, l < j → j < m → no_at off G nc j) ∨
    (∃ l k, l < m ∧ dk_169_10 nn g G nc ((m + 4294967295) % 4294967296) 4294967295 4294967295 = dk_169_82 nn nn G nc 4294967295 k (l + 1) ∧ sc_vc off G l nc = none ∧ k < G 20 (G 62 l) ∧ G 66 (30 * G 62 l + k) = nc ∧ ∀ j, l < j → j < m → no_at off G nc j)
  | 0, m, _, h => absurd h (Nat.not_lt_zero _)
  | g + 1, m, h1, h2 => by
    have hN1 := hs.1
    have hd : dk_169_10 nn (g + 1) G nc ((m + 4294967295) % 4294967296) 4294967295 4294967295 = dk_169_10b nn (dk_169_10 nn g) G nc ((m + 4294967295) % 4294967296) 4294967295 4294967295 := rfl
    rw [hd]
    unfold dk_169_10b
    by_cases q : m = 0
    · subst q
      left
      refine ⟨?_, fun j hj => absurd hj (Nat.not_lt_zero _)⟩
      rw [if_pos (by decide)]
      unfold dk_169_60
      rw [if_pos (by decide), od_upS, od_upS]
    · obtain ⟨l, rfl⟩ : ∃ l, m = l + 1 := ⟨m - 1, by omega⟩
      have hl : l < N := by omega
      rw [show (l + 1 + 4294967295) % 4294967296 = l by omega, if_neg (by omega), dkS_170 hs hl hnn, od_bS]
      dsimp only
      have hf := (hs.2.1 l hl).2.2.2.2.2
      cases hv : sc_vc off G l nc with
      | some i =>
        dsimp only
        have hi := sc_vc_lt hs hl hv
        right; left
        refine ⟨l, i, Nat.lt_succ_self _, ?_, hv, fun j h3 h4 => by omega⟩
        rw [if_neg (by omega)]
        unfold dk_169_40
        rw [if_neg (by omega)]
        unfold dk_169_60
        rw [if_neg (by omega), Nat.mod_eq_of_lt (show l + 1 < 4294967296 by omega)]
      | none =>
        dsimp only
        rw [if_pos (by decide), od_g1 (by omega)]
        have hlen := cp_len hc hl
        have hcap := dkS_171 (nn := nn) (G := G) (f := G 62 l) (nc := nc) hf rfl hlen.2 (by omega)
        by_cases z : ∃ k, k < G 20 (G 62 l) ∧ G 66 (30 * G 62 l + k) = nc
        · have hmin : ∃ k, k < G 20 (G 62 l) ∧ G 66 (30 * G 62 l + k) = nc ∧ ∀ i, i < k → ¬ G 66 (30 * G 62 l + i) = nc := by
            obtain ⟨k, hk⟩ := z
            induction k using Nat.strongRecOn with
            | _ k ih =>
              by_cases y : ∃ i, i < k ∧ G 66 (30 * G 62 l + i) = nc
              · obtain ⟨i, hi, hi2⟩ := y
                exact ih i hi ⟨by omega, hi2⟩
              · exact ⟨k, hk.1, hk.2, fun i hi w => y ⟨i, hi, w⟩⟩
          obtain ⟨k, k1, k2, k3⟩ := hmin
          right; right
          refine ⟨l, k, Nat.lt_succ_self _, ?_, hv, k1, k2, fun j h3 h4 => by omega⟩
          rw [hcap.1 k k1 k2 k3, od_bS]
          dsimp only
          unfold dk_169_40
          rw [if_pos (by decide), if_neg (by omega)]
          unfold dk_169_60
          rw [if_neg (by omega), Nat.mod_eq_of_lt (show l + 1 < 4294967296 by omega)]
        · have hno : no_at off G nc l := ⟨hv, fun k hk w => z ⟨k, hk, w⟩⟩
          rw [hcap.2 hno.2, od_bS]
          dsimp only
          unfold dk_169_40
          rw [if_pos (by decide), if_pos (by decide), od_letS]
          rcases dkL_169 (nc := nc) hnn hs hc g l (by omega) (by omega) with ⟨d1, d2⟩ | ⟨l', i, d0, d1, d2, d3⟩ | ⟨l', k, d0, d1, d2, d3, d4, d5⟩
          · left
            refine ⟨d1, fun j hj => ?_⟩
            by_cases e : j = l
            · rw [e]; exact hno
            · exact d2 j (by omega)
          · right; left
            refine ⟨l', i, by omega, d1, d2, fun j h3 h4 => ?_⟩
            by_cases e : j = l
            · rw [e]; exact hno
            · exact d3 j h3 (by omega)
          · right; right
            refine ⟨l', k, by omega, d1, d2, d3, d4, fun j h3 h4 => ?_⟩
            by_cases e : j = l
            · rw [e]; exact hno
            · exact d5 j h3 (by omega)
/-- the reference's search at a level -/
theorem dkL_222_49 {nn : Nat} {F : wq_F} {r : wq_F → Nat → Nat → Nat → Option (Nat × wq_F)} {nr p l a : Nat} (hl : l < 52) (ha : F 31 l = a) (ha2 : a ≤ 1600) : ∀ g m : Nat, m ≤ 1600 → m < g → dk_222_49 nn r g F nr p l ((m + 4294967295) % 4294967296) = match lx_lst (fun k => decide (a ≤ k ∧ F 29 k = nr)) m with
    | some k => dk_222_88 nn nn F p l (F 30 k) 1 ((l + 1) % 4294967296)
    | none => r F nr p ((l + 4294967295) % 4294967296)
  | 0, m, _, h => absurd h (Nat.not_lt_zero _)
  | g + 1, m, h1, h2 => by
    show dk_222_49b nn r (dk_222_49 nn r g) F nr p l ((m + 4294967295) % 4294967296) = _
    unfold dk_222_49b
    rw [od_g1 hl, ha]
    by_cases q : m ≤ a
    · have hs : ev_s ((m + 4294967295) % 4294967296) < ev_s a := by
        unfold ev_s
        omega
      rw [if_pos hs, lx_lst_no (fun t ht => decide_eq_false (fun z => by omega)), od_letS]
    · obtain ⟨k, rfl⟩ : ∃ k, m = k + 1 := ⟨m - 1, by omega⟩
      rw [show (k + 1 + 4294967295) % 4294967296 = k by omega, if_neg (fun z => absurd ((wd_slt (by omega) (by omega)).mp z) (by omega)), od_g1 (by omega)]
      by_cases b : F 29 k = nr
      · rw [if_pos b, od_g1 (by omega), lx_lst_t (decide_eq_true ⟨by omega, b⟩)]
      · rw [if_neg b, od_letS, lx_lst_f (decide_eq_false (fun z => b z.2))]
        exact dkL_222_49 hl ha ha2 g k (by omega) (by omega)
/-- the reference's search, from level m - 1 down -/
theorem dkL_222 {nn N : Nat} {off voff ph : Nat → Nat} {ls cs : List (List Nat)} {F G : wq_F} {nr p : Nat} (hnn : 1600 < nn) (hs : sc_ok N off voff ph F ls G cs) : ∀ g m : Nat, m ≤ N → m < g →
    (dk_222_14 nn g F nr p ((m + 4294967295) % 4294967296) = some (0, wq_up (wq_up F 0 61 2) 0 62 nr) ∧ ∀ j, j < m → sc_vr voff F j nr = none) ∨
    (∃ l k, l < m ∧ dk_222_14 nn g F nr p ((m + 4294967295) % 4294967296) = dk_222_88 nn nn F p l (F 30 k) 1 (l + 1) ∧ sc_vr voff F l nr = some k ∧ ∀ j, l < j → j < m → sc_vr voff F j nr = none)
  | 0, m, _, h => absurd h (Nat.not_lt_zero _)
  | g + 1, m, h1, h2 => by
    have hN1 := hs.1
    have hd : dk_222_14 nn (g + 1) F nr p ((m + 4294967295) % 4294967296) = dk_222_14b nn (dk_222_14 nn g) F nr p ((m + 4294967295) % 4294967296) := rfl
    rw [hd]
    unfold dk_222_14b
    by_cases q : m = 0
    · subst q
      left
      refine ⟨?_, fun j hj => absurd hj (Nat.not_lt_zero _)⟩
      rw [if_pos (by decide), od_upS, od_upS]
    · obtain ⟨l, rfl⟩ : ∃ l, m = l + 1 := ⟨m - 1, by omega⟩
      have hl : l < N := by omega
      have hv31 := (hs.2.1 l hl).2.2.2.1
      have mv := sc_mono (f := voff) (N := N) (fun l hl => (hs.2.1 l hl).2.1) (show l + 1 ≤ N by omega) (Nat.le_refl _)
      have mv0 := (hs.2.1 l hl).2.1
      have hvN : voff N ≤ 1200 := by
        by_cases z : voff N ≤ 1200
        · exact z
        · exfalso
          have key : ∀ k, k < voff N → k ≤ ph k := by
            intro k
            induction k with
            | zero => intro _; exact Nat.zero_le _
            | succ k ih =>
              intro hk
              have h5 := ih (by omega)
              have h6 := hs.2.2.2.1 k (k + 1) (Nat.lt_succ_self _) hk
              omega
          have h7 := key (voff N - 1) (by omega)
          have h8 := (hs.2.2.1 (voff N - 1) (by omega)).1
          have := hN1.2.2.2.2.2.2.2.2
          omega
      have hlo := dkL_222_49 (nn := nn) (F := F) (r := dk_222_14 nn g) (nr := nr) (p := p) (l := l) (a := voff l) (by omega) hv31 (by omega) nn (voff (l + 1)) (by omega) (by omega)
      have hstep : (if l = F 0 53 then od_let ((F 0 50 + (4294967296 - 1)) % 4294967296) fun y13 => dk_222_49 nn (dk_222_14 nn g) nn F nr p l y13 else od_g ((l + 1) % 4294967296 < 52) <| od_let ((F 31 ((l + 1) % 4294967296) + (4294967296 - 1)) % 4294967296) fun y10 => dk_222_49 nn (dk_222_14 nn g) nn F nr p l y10) = dk_222_49 nn (dk_222_14 nn g) nn F nr p l ((voff (l + 1) + 4294967295) % 4294967296) := by
        by_cases z : l = F 0 53
        · rw [if_pos z, od_letS, hN1.2.2.2.2.2.2.2.1, show voff N = voff (l + 1) by rw [show l + 1 = N by omega]]
        · rw [if_neg z, Nat.mod_eq_of_lt (show l + 1 < 4294967296 by omega), od_g1 (by omega), od_letS, (hs.2.1 (l + 1) (by omega)).2.2.2.1]
      rw [show (l + 1 + 4294967295) % 4294967296 = l by omega, if_neg (by omega), hstep, hlo]
      cases hv : sc_vr voff F l nr with
      | some k =>
        have hv2 : lx_lst (fun k => decide (voff l ≤ k ∧ F 29 k = nr)) (voff (l + 1)) = some k := hv
        rw [hv2]
        dsimp only
        right
        exact ⟨l, k, Nat.lt_succ_self _, by rw [Nat.mod_eq_of_lt (show l + 1 < 4294967296 by omega)], hv, fun j h3 h4 => by omega⟩
      | none =>
        have hv2 : lx_lst (fun k => decide (voff l ≤ k ∧ F 29 k = nr)) (voff (l + 1)) = none := hv
        rw [hv2]
        dsimp only
        rcases dkL_222 (nr := nr) (p := p) hnn hs g l (by omega) (by omega) with ⟨d1, d2⟩ | ⟨l', k, d0, d1, d2, d3⟩
        · left
          refine ⟨d1, fun j hj => ?_⟩
          by_cases e : j = l
          · rw [e]; exact hv
          · exact d2 j (by omega)
        · right
          refine ⟨l', k, by omega, d1, d2, fun j h3 h4 => ?_⟩
          by_cases e : j = l
          · rw [e]; exact hv
          · exact d3 j h3 (by omega)
