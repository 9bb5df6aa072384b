/-! ===== 97: captured locals: one level on each side (wip/whole2/97.txt) ===== -/
/-- one captured local more -/
def cap_add (F : wq_F) (f m v i : Nat) : wq_F := wq_up (wq_up (wq_up F 18 (30 * f + m) v) 19 (30 * f + m) i) 15 f (m + 1)
def cap_addX (G : wq_F) (f m src nc : Nat) : wq_F := wq_up (wq_up (wq_up G 23 (30 * f + m) src) 66 (30 * f + m) nc) 20 f (m + 1)
theorem dkL_221 {nn : Nat} {F : wq_F} {f m v x p : Nat} (hf : f < 51) (hm : F 15 f = m) (hm2 : m ≤ 30) : ∀ g k : Nat, k ≤ m → m - k < g →
    (∀ j, k ≤ j → j < m → F 18 (30 * f + j) = v → F 19 (30 * f + j) = x → (∀ i, k ≤ i → i < j → ¬ (F 18 (30 * f + i) = v ∧ F 19 (30 * f + i) = x)) → dk_221_11 nn g F v x p f k = some (j, F)) ∧
    ((∀ j, k ≤ j → j < m → ¬ (F 18 (30 * f + j) = v ∧ F 19 (30 * f + j) = x)) → dk_221_11 nn g F v x p f k = if m = 30 then (dk_209 F 3 p).bind (fun y => some (0, y.2)) else some (m, cap_add F f m v x))
  | 0, k, _, h => absurd h (Nat.not_lt_zero _)
  | g + 1, k, h1, h2 => by
    have hd : dk_221_11 nn (g + 1) F v x p f k = dk_221_11b nn (dk_221_11 nn g) F v x p f k := rfl
    rw [hd]
    unfold dk_221_11b
    have hmul : ev_oMul 30 f = 30 * f := by
      unfold ev_oMul
      omega
    rw [od_g1 hf, hm, hmul]
    by_cases q : k < m
    · rw [if_pos ((wd_slt (by omega) (by omega)).mpr q), od_letS, Nat.mod_eq_of_lt (show 30 * f + k < 4294967296 by omega), od_g1 (by omega)]
      obtain ⟨i1, i2⟩ := dkL_221 (nn := nn) (v := v) (x := x) (p := p) hf hm hm2 g (k + 1) (by omega) (by omega)
      have go : ¬ (F 18 (30 * f + k) = v ∧ F 19 (30 * f + k) = x) →
          (∀ j, k ≤ j → j < m → F 18 (30 * f + j) = v → F 19 (30 * f + j) = x → (∀ i, k ≤ i → i < j → ¬ (F 18 (30 * f + i) = v ∧ F 19 (30 * f + i) = x)) → dk_221_11 nn g F v x p f (k + 1) = some (j, F)) ∧
          ((∀ j, k ≤ j → j < m → ¬ (F 18 (30 * f + j) = v ∧ F 19 (30 * f + j) = x)) → dk_221_11 nn g F v x p f (k + 1) = if m = 30 then (dk_209 F 3 p).bind (fun y => some (0, y.2)) else some (m, cap_add F f m v x)) := fun z => by
        refine ⟨fun j hj1 hj2 hj3 hj4 hj5 => ?_, fun h => i2 (fun j hj1 hj2 => h j (by omega) hj2)⟩
        have : j ≠ k := fun e => z (by rw [← e]; exact ⟨hj3, hj4⟩)
        exact i1 j (by omega) hj2 hj3 hj4 (fun i hi1 hi2 => hj5 i (by omega) hi2)
      by_cases z : F 18 (30 * f + k) = v
      · rw [if_pos z, od_letS, od_g1 (by omega)]
        by_cases z2 : F 19 (30 * f + k) = x
        · rw [if_pos z2]
          refine ⟨fun j hj1 hj2 hj3 hj4 hj5 => ?_, fun h => absurd ⟨z, z2⟩ (h k (Nat.le_refl _) q)⟩
          by_cases e : j = k
          · rw [e]
          · exact absurd ⟨z, z2⟩ (hj5 k (Nat.le_refl _) (by omega))
        · rw [if_neg z2, od_letS, Nat.mod_eq_of_lt (show k + 1 < 4294967296 by omega)]
          exact go (fun y => z2 y.2)
      · rw [if_neg z, od_letS, Nat.mod_eq_of_lt (show k + 1 < 4294967296 by omega)]
        exact go (fun y => z y.1)
    · rw [if_neg (fun z => q ((wd_slt (by omega) (by omega)).mp z)), od_g1 hf]
      refine ⟨fun j hj1 hj2 _ _ _ => by omega, fun _ => ?_⟩
      by_cases z : m = 30
      · rw [if_pos z, if_pos z]
      · rw [if_neg z, if_neg z, od_g1 hf, od_letS, Nat.mod_eq_of_lt (show 30 * f + m < 4294967296 by omega), od_g1 (by omega), od_upS, od_g1 hf, wq_up_cell (by decide), hm, od_letS, Nat.mod_eq_of_lt (show 30 * f + m < 4294967296 by omega), od_g1 (by omega), od_upS, od_g1 hf, wq_up_cell (by decide), wq_up_cell (by decide), hm, od_letS, Nat.mod_eq_of_lt (show m + 1 < 4294967296 by omega), od_g1 hf, od_upS, od_g1 hf, od_letS, wq_up_same, show (m + 1 + (4294967296 - 1)) % 4294967296 = m by omega]
        rfl
/-- the reference's captured() at a level -/
theorem dkS_221 {nn : Nat} {F : wq_F} {l f m v x p : Nat} (hl : l < 52) (hlf : F 32 l = f) (hf : f < 51) (hm : F 15 f = m) (hm2 : m ≤ 30) (hn : 30 < nn) :
    (∀ j, j < m → F 18 (30 * f + j) = v → F 19 (30 * f + j) = x → (∀ i, i < j → ¬ (F 18 (30 * f + i) = v ∧ F 19 (30 * f + i) = x)) → dk_221 nn F l v x p = some (j, F)) ∧
    ((∀ j, j < m → ¬ (F 18 (30 * f + j) = v ∧ F 19 (30 * f + j) = x)) → dk_221 nn F l v x p = if m = 30 then (dk_209 F 3 p).bind (fun y => some (0, y.2)) else some (m, cap_add F f m v x)) := by
  have h := dkL_221 (nn := nn) (v := v) (x := x) (p := p) hf hm hm2 nn 0 (Nat.zero_le _) (by omega)
  unfold dk_221
  rw [od_g1 hl, hlf]
  exact ⟨fun j h1 h2 h3 h4 => h.1 j (Nat.zero_le _) h1 h2 h3 (fun i _ hi => h4 i hi), fun h1 => h.2 (fun j _ hj => h1 j hj)⟩
/-- the class captures a name at a level -/
theorem dkL_169_82 {nn g : Nat} {G : wq_F} {nc s x l f m N : Nat} (hN : G 59 8 + 1 = N) (hN2 : N ≤ 24) (hl : l < N) (hlf : G 62 l = f) (hf : f < 50) (hm : G 20 f = m) (hm2 : m ≤ 30) (hs : s < 2147483648 ∨ s = 4294967295) : dk_169_82 nn (g + 1) G nc s x l = if m = 30 then some (0, G) else dk_169_82 nn g (cap_addX G f m (if s = 4294967295 then ev_oXor x 4294967295 else s) nc) nc 4294967295 m (l + 1) := by
  show dk_169_82b nn (dk_169_82 nn g) G nc s x l = _
  unfold dk_169_82b
  have hmul : ev_oMul f 30 = 30 * f := by
    unfold ev_oMul
    omega
  rw [if_neg (fun z => absurd ((wd_slt (by omega) (by omega)).mp z) (by omega)), od_g1 (by omega), hlf, od_g1 hf, hm]
  have add : ∀ src, dk_169_148 nn (dk_169_82 nn g) G nc l f m src (30 * f + m) = dk_169_82 nn g (cap_addX G f m src nc) nc 4294967295 m (l + 1) ∨ m = 30 := fun src => by
    by_cases z : m = 30
    · exact Or.inr z
    · left
      unfold dk_169_148
      rw [od_g1 (by omega), od_upS, od_letS, hmul, Nat.mod_eq_of_lt (show 30 * f + m < 4294967296 by omega), od_g1 (by omega), od_upS, od_g1 hf, wq_up_cell (by decide), wq_up_cell (by decide), hm, od_letS, Nat.mod_eq_of_lt (show m + 1 < 4294967296 by omega), od_g1 hf, od_upS, od_letS, Nat.mod_eq_of_lt (show l + 1 < 4294967296 by omega)]
      rfl
  by_cases z : m = 30
  · rw [if_neg (fun y => absurd ((wd_slt (by omega) (by decide)).mp y) (by omega)), if_pos z]
  · rw [if_pos ((wd_slt (by omega) (by decide)).mpr (by omega)), if_neg z, od_letS, hmul, Nat.mod_eq_of_lt (show 30 * f + m < 4294967296 by omega)]
    by_cases y : s = 4294967295
    · rw [if_pos (show 2147483648 ≤ s by omega), if_pos y]
      exact (add _).resolve_right z
    · rw [if_neg (show ¬ 2147483648 ≤ s by omega), if_neg y]
      exact (add _).resolve_right z
theorem wd_xor1 : ∀ x, x < 30 → ev_oXor x 4294967295 = 4294967295 - x := by decide
/-- what is captured at level l: names all different; each comes from the level before -/
def cp_at (off voff ph : Nat → Nat) (F G : wq_F) (cs : List (List Nat)) (l : Nat) : Prop :=
  F 15 (G 62 (l + 1)) = G 20 (G 62 (l + 1)) ∧ G 20 (G 62 (l + 1)) ≤ 30 ∧
  (∀ j k, j < k → k < G 20 (G 62 (l + 1)) → ¬ G 66 (30 * G 62 (l + 1) + j) = G 66 (30 * G 62 (l + 1) + k)) ∧
  ∀ k, k < G 20 (G 62 (l + 1)) → G 66 (30 * G 62 (l + 1) + k) < cs.length ∧
    (∀ i, sc_vc off G l (G 66 (30 * G 62 (l + 1) + k)) = some i → ∃ k0, voff l ≤ k0 ∧ k0 < voff (l + 1) ∧ ph k0 = i ∧ F 18 (30 * G 62 (l + 1) + k) = 1 ∧ F 19 (30 * G 62 (l + 1) + k) = F 30 k0 ∧ G 23 (30 * G 62 (l + 1) + k) = G 61 i) ∧
    (sc_vc off G l (G 66 (30 * G 62 (l + 1) + k)) = none → 0 < l ∧ F 18 (30 * G 62 (l + 1) + k) = 0 ∧ F 19 (30 * G 62 (l + 1) + k) < G 20 (G 62 l) ∧ G 66 (30 * G 62 l + F 19 (30 * G 62 (l + 1) + k)) = G 66 (30 * G 62 (l + 1) + k) ∧ G 23 (30 * G 62 (l + 1) + k) = 4294967295 - F 19 (30 * G 62 (l + 1) + k))
def cp_ok (N : Nat) (off voff ph : Nat → Nat) (F G : wq_F) (cs : List (List Nat)) : Prop := (F 15 (G 62 0) = 0 ∧ G 20 (G 62 0) = 0) ∧ ∀ l, l + 1 < N → cp_at off voff ph F G cs l
/-- the two rows of a function's captured locals are of one length -/
theorem cp_len {N : Nat} {off voff ph : Nat → Nat} {F G : wq_F} {cs : List (List Nat)} (h : cp_ok N off voff ph F G cs) {l : Nat} (hl : l < N) : F 15 (G 62 l) = G 20 (G 62 l) ∧ G 20 (G 62 l) ≤ 30 := by
  cases l with
  | zero => exact ⟨h.1.1.trans h.1.2.symm, by rw [h.1.2]; exact Nat.zero_le _⟩
  | succ l => exact ⟨(h.2 l hl).1, (h.2 l hl).2.1⟩
/-- a captured pair tells the name -/
theorem cp_inj {N : Nat} {off voff ph : Nat → Nat} {F G : wq_F} {ls cs : List (List Nat)} (hs : sc_ok N off voff ph F ls G cs) {l : Nat} (hl : l + 1 < N) (h : cp_at off voff ph F G cs l) {j v x nc : Nat} (hj : j < G 20 (G 62 (l + 1)))
    (hv : (v = 1 ∧ ∃ k0, voff l ≤ k0 ∧ k0 < voff (l + 1) ∧ x = F 30 k0 ∧ G 60 (ph k0) = nc) ∨ (v = 0 ∧ x < G 20 (G 62 l) ∧ G 66 (30 * G 62 l + x) = nc)) (e : F 18 (30 * G 62 (l + 1) + j) = v ∧ F 19 (30 * G 62 (l + 1) + j) = x) : G 66 (30 * G 62 (l + 1) + j) = nc := by
  obtain ⟨a1, a2, a3⟩ := h.2.2.2 j hj
  cases ho : sc_vc off G l (G 66 (30 * G 62 (l + 1) + j)) with
  | some i =>
    obtain ⟨k1, b1, b2, b3, b4, b5, b6⟩ := a2 i ho
    have hi := lx_lst_some ho
    have hi2 := of_decide_eq_true hi.2
    rcases hv with ⟨v1, k0, c1, c2, c3, c4⟩ | ⟨v0, _⟩
    · have : k1 = k0 := by
        have hd := hs.2.2.2.2.2.2.1
        have e3 : F 30 k1 = F 30 k0 := b5.symm.trans (e.2.trans c3)
        by_cases z : k1 = k0
        · exact z
        · exfalso
          by_cases z2 : k1 < k0
          · exact hd l k1 k0 (by omega) b1 z2 c2 e3
          · exact hd l k0 k1 (by omega) c1 (by omega) b2 e3.symm
      rw [this] at b3
      rw [← hi2.2.1, ← b3]
      exact c4
    · have := e.1
      omega
  | none =>
    obtain ⟨b1, b2, b3, b4, b5⟩ := a3 ho
    rcases hv with ⟨v1, _⟩ | ⟨v0, c1, c2⟩
    · have := e.1
      omega
    · rw [e.2] at b4
      exact b4.symm.trans c2
