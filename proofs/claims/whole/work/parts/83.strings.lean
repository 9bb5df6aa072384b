/-! ===== 83: quoted strings: the class's escape, the loops of both sides (wip/whole2/83.txt) ===== -/
def lx_es2 (T : Nat → Nat) (n k : Nat) : Nat × Nat :=
  if lx_at T n k = 110 then (10, 1) else if lx_at T n k = 116 then (9, 1) else if lx_at T n k = 92 ∨ lx_at T n k = 34 ∨ lx_at T n k = 39 then (lx_at T n k, 1)
  else ((lx_dg T n 3 k 0).1, if 255 < (lx_dg T n 3 k 0).1 then 0 else (lx_dg T n 3 k 0).2 - k)
theorem lx_es2_some {T : Nat → Nat} {n k v m : Nat} (h : lx_es T n k = some (v, m)) : lx_es2 T n k = (v, m) := by
  unfold lx_es at h
  unfold lx_es2
  by_cases h1 : lx_at T n k = 110
  · rw [if_pos h1] at h ⊢; cases h; rfl
  rw [if_neg h1] at h ⊢
  by_cases h2 : lx_at T n k = 116
  · rw [if_pos h2] at h ⊢; cases h; rfl
  rw [if_neg h2] at h ⊢
  by_cases h3 : lx_at T n k = 92 ∨ lx_at T n k = 34 ∨ lx_at T n k = 39
  · rw [if_pos h3] at h ⊢; cases h; rfl
  rw [if_neg h3] at h ⊢
  by_cases h4 : lx_digit (lx_at T n k) = 0
  · rw [if_pos h4] at h; cases h
  rw [if_neg h4] at h
  by_cases h5 : 255 < (lx_dg T n 3 k 0).1
  · rw [if_pos h5] at h; cases h
  rw [if_neg h5] at h ⊢
  cases h
  rfl
theorem lx_es2_none {T : Nat → Nat} {n k : Nat} (h : lx_es T n k = none) : (lx_es2 T n k).2 = 0 := by
  unfold lx_es at h
  unfold lx_es2
  by_cases h1 : lx_at T n k = 110
  · rw [if_pos h1] at h; cases h
  rw [if_neg h1] at h ⊢
  by_cases h2 : lx_at T n k = 116
  · rw [if_pos h2] at h; cases h
  rw [if_neg h2] at h ⊢
  by_cases h3 : lx_at T n k = 92 ∨ lx_at T n k = 34 ∨ lx_at T n k = 39
  · rw [if_pos h3] at h; cases h
  rw [if_neg h3] at h ⊢
  by_cases h4 : lx_digit (lx_at T n k) = 0
  · rw [lx_dg_e h4]
    show (if 255 < 0 then 0 else k - k) = 0
    rw [if_neg (by decide), Nat.sub_self]
  rw [if_neg h4] at h
  by_cases h5 : 255 < (lx_dg T n 3 k 0).1
  · rw [if_pos h5]
  rw [if_neg h5] at h
  cases h
theorem lx_at_b8 {T T' : Nat → Nat} {n : Nat} (h : ∀ i, i < n → T' i = ev_b8 (T i) ∧ T i < 256) {k c : Nat} (hc : c < 128) : (lx_at T' n k = c ↔ lx_at T n k = c) := by
  rcases nx_b8 h k with e | e
  · rw [e]
  · omega
theorem lx_dg_b8 {T T' : Nat → Nat} {n : Nat} (h : ∀ i, i < n → T' i = ev_b8 (T i) ∧ T i < 256) : ∀ f k v : Nat, lx_dg T' n f k v = lx_dg T n f k v
  | 0, _, _ => rfl
  | f + 1, k, v => by
    have e := nx_digE h k
    by_cases q : lx_digit (lx_at T n k) = 0
    · rw [lx_dg_e q, lx_dg_e (e.trans q)]
    · have q' : ¬ lx_digit (lx_at T' n k) = 0 := fun z => q (e.symm.trans z)
      have h9 := lx_digit9 q
      have e2 : lx_at T' n k = lx_at T n k := (lx_at_b8 h (c := lx_at T n k) (by omega)).mpr rfl
      rw [lx_dg_s q, lx_dg_s q', e2]
      exact lx_dg_b8 h f _ _
theorem lx_es2_b8 {T T' : Nat → Nat} {n : Nat} (h : ∀ i, i < n → T' i = ev_b8 (T i) ∧ T i < 256) (k : Nat) : lx_es2 T' n k = lx_es2 T n k := by
  unfold lx_es2
  rw [lx_dg_b8 h]
  have a1 := lx_at_b8 h (k := k) (c := 110) (by decide)
  have a2 := lx_at_b8 h (k := k) (c := 116) (by decide)
  have a3 := lx_at_b8 h (k := k) (c := 92) (by decide)
  have a4 := lx_at_b8 h (k := k) (c := 34) (by decide)
  have a5 := lx_at_b8 h (k := k) (c := 39) (by decide)
  by_cases h1 : lx_at T n k = 110
  · rw [if_pos h1, if_pos (a1.mpr h1)]
  rw [if_neg h1, if_neg (fun z => h1 (a1.mp z))]
  by_cases h2 : lx_at T n k = 116
  · rw [if_pos h2, if_pos (a2.mpr h2)]
  rw [if_neg h2, if_neg (fun z => h2 (a2.mp z))]
  by_cases h3 : lx_at T n k = 92 ∨ lx_at T n k = 34 ∨ lx_at T n k = 39
  · have e2 : lx_at T' n k = lx_at T n k := (lx_at_b8 h (c := lx_at T n k) (by omega)).mpr rfl
    rw [if_pos h3, e2, if_pos h3]
  · rw [if_neg h3, if_neg (by omega)]
/-- the class's escape -/
theorem dkL_193_73 {nn : Nat} {F : wq_F} {b : List Nat} {n a : Nat} (hF : F 57 2 = n) (hn6 : n ≤ 6000) (hb : b.length ≤ 2200) (ha : a < 100000) : ∀ f g k v : Nat, f < g → k + f = 3 → v < 1000 → v * 10 ^ f + 10 ^ f ≤ 1000 → dk_193_73 nn g (xfw F b) a k v = some (if 255 < (lx_dg (F 1) n f (a + k) v).1 then 0 else (lx_dg (F 1) n f (a + k) v).2 - a, xfw F (xput b (lx_dg (F 1) n f (a + k) v).1))
  | f, 0, k, v, h, _, _, _ => absurd h (by omega)
  | 0, g + 1, k, v, h1, h2, h3, h4 => by
    show dk_193_73b nn (dk_193_73 nn g) (xfw F b) a k v = _
    unfold dk_193_73b
    rw [if_neg (fun z => absurd ((wd_slt (by omega) (by decide)).mp z) (by omega))]
    unfold dk_193_115
    rw [dkS_0 hb, od_bS]
    show _ = some (if 255 < v then 0 else a + k - a, xfw F (xput b v))
    by_cases z : 255 < v
    · rw [if_pos ((wd_slt (by decide) (by omega)).mpr z), if_pos z]
    · rw [if_neg (fun y => z ((wd_slt (by decide) (by omega)).mp y)), if_neg z, Nat.add_sub_cancel_left]
  | f + 1, g + 1, k, v, h1, h2, h3, h4 => by
    show dk_193_73b nn (dk_193_73 nn g) (xfw F b) a k v = _
    unfold dk_193_73b
    have e2 : xfw F b 57 2 = n := by rw [xfw_c (by decide) (by decide)]; exact hF
    have e1 : xfw F b 1 = F 1 := funext fun i => xfw_c (by decide) (by omega)
    have at_ : ∀ j, j < 2147483648 → dk_186 (xfw F b) j = some (lx_at (F 1) n j, xfw F b) := fun j hj => by
      unfold dk_186
      rw [od_g1 ⟨hj, by rw [e2]; exact hn6⟩, e1, e2]
    rw [if_pos ((wd_slt (by omega) (by decide)).mpr (by omega)), Nat.mod_eq_of_lt (show a + k < 4294967296 by omega), at_ _ (by omega), od_bS]
    show (some (lx_digit (lx_at (F 1) n (a + k)), xfw F b)).bind _ = _
    rw [od_bS]
    dsimp only
    by_cases q : lx_digit (lx_at (F 1) n (a + k)) = 0
    · rw [if_pos q, lx_dg_e q]
      unfold dk_193_115
      rw [dkS_0 hb, od_bS]
      dsimp only
      by_cases z : 255 < v
      · rw [if_pos ((wd_slt (by decide) (by omega)).mpr z), if_pos z]
      · rw [if_neg (fun y => z ((wd_slt (by decide) (by omega)).mp y)), if_neg z, Nat.add_sub_cancel_left]
    · have h9 := lx_digit9 q
      rw [if_neg q, at_ _ (by omega), od_bS]
      dsimp only
      rw [od_letS, od_letS, od_letS, lx_mul10' h3, lx_dg_s q]
      have e3 : ((10 * v + lx_at (F 1) n (a + k)) % 4294967296 + (4294967296 - 48)) % 4294967296 = 10 * v + (lx_at (F 1) n (a + k) - 48) := by omega
      rw [e3, Nat.mod_eq_of_lt (show k + 1 < 4294967296 by omega)]
      have h5 : (10 : Nat) ^ (f + 1) = 10 * 10 ^ f := by rw [Nat.pow_succ, Nat.mul_comm]
      have h6 : 1 ≤ 10 ^ f := Nat.one_le_pow _ _ (by decide)
      have h7 : (10 * v + (lx_at (F 1) n (a + k) - 48)) * 10 ^ f + 10 ^ f ≤ v * 10 ^ (f + 1) + 10 ^ (f + 1) := by
        rw [h5]
        have h8 : (10 * v + (lx_at (F 1) n (a + k) - 48)) * 10 ^ f + 10 ^ f = (10 * v + (lx_at (F 1) n (a + k) - 48) + 1) * 10 ^ f := by rw [Nat.add_mul (10 * v + (lx_at (F 1) n (a + k) - 48)) 1, Nat.one_mul]
        have h10 : v * (10 * 10 ^ f) + 10 * 10 ^ f = (10 * v + 10) * 10 ^ f := by rw [Nat.add_mul, Nat.mul_left_comm, Nat.mul_assoc]
        rw [h8, h10]
        exact Nat.mul_le_mul_right _ (by omega)
      have h11 : 10 * v + (lx_at (F 1) n (a + k) - 48) < 1000 := by
        have : 10 * v + (lx_at (F 1) n (a + k) - 48) ≤ (10 * v + (lx_at (F 1) n (a + k) - 48)) * 10 ^ f := Nat.le_mul_of_pos_right _ (by omega)
        omega
      have hr := dkL_193_73 (nn := nn) (b := b) hF hn6 hb ha f g (k + 1) _ (by omega) (by omega) h11 (by omega)
      rw [← Nat.add_assoc] at hr
      exact hr
theorem dkS_193 {nn : Nat} {F : wq_F} {b : List Nat} {n k : Nat} (hF : F 57 2 = n) (hn6 : n ≤ 6000) (hb : b.length ≤ 2200) (hk : k < 100000) (hn : 3 < nn) : dk_193 nn (xfw F b) k = some ((lx_es2 (F 1) n k).2, xfw F (xput b (lx_es2 (F 1) n k).1)) := by
  have e2 : xfw F b 57 2 = n := by rw [xfw_c (by decide) (by decide)]; exact hF
  have e1 : xfw F b 1 = F 1 := funext fun i => xfw_c (by decide) (by omega)
  unfold dk_193 lx_es2
  have at_ : dk_186 (xfw F b) k = some (lx_at (F 1) n k, xfw F b) := by
    unfold dk_186
    rw [od_g1 ⟨by omega, by rw [e2]; exact hn6⟩, e1, e2]
  rw [at_, od_bS]
  dsimp only
  by_cases h1 : lx_at (F 1) n k = 110
  · rw [if_pos h1, if_pos h1]
    unfold dk_193_18
    rw [if_pos h1, dkS_0 hb, od_bS]
  rw [if_neg h1, if_neg h1]
  by_cases h2 : lx_at (F 1) n k = 116
  · rw [if_pos h2, if_pos h2]
    unfold dk_193_18
    rw [if_neg h1, dkS_0 hb, od_bS]
  rw [if_neg h2, if_neg h2]
  by_cases h3 : lx_at (F 1) n k = 92
  · rw [if_pos h3, if_pos (Or.inl h3), dkS_0 hb, od_bS]
  rw [if_neg h3]
  by_cases h4 : lx_at (F 1) n k = 34
  · rw [if_pos h4, if_pos (Or.inr (Or.inl h4)), dkS_0 hb, od_bS]
  rw [if_neg h4]
  by_cases h5 : lx_at (F 1) n k = 39
  · rw [if_pos h5, if_pos (Or.inr (Or.inr h5)), dkS_0 hb, od_bS]
  rw [if_neg h5, if_neg (by omega), dkL_193_73 hF hn6 hb hk 3 nn 0 0 hn rfl (by decide) (by decide)]
  rfl
/-- a quoted string's bytes: to where they go, whether they end well -/
def lx_qs (T : Nat → Nat) (n q : Nat) : Nat → Nat → List Nat × Nat × Nat
  | 0, k => ([], k, 1)
  | f + 1, k => if k < n ∧ ¬ T k = q ∧ ¬ T k = 10 then
      (if T k = 92 then (match lx_es T n (k + 1) with
        | some (v, m) => (ev_b8 v :: (lx_qs T n q f (k + 1 + m)).1, (lx_qs T n q f (k + 1 + m)).2)
        | none => ([], k, 0))
      else (ev_b8 (T k) :: (lx_qs T n q f (k + 1)).1, (lx_qs T n q f (k + 1)).2))
    else ([], k, 1)
theorem lx_qs_e {T : Nat → Nat} {n q f k : Nat} (h : ¬ (k < n ∧ ¬ T k = q ∧ ¬ T k = 10)) : lx_qs T n q f k = ([], k, 1) := by
  cases f with
  | zero => rfl
  | succ f => exact if_neg h
theorem lx_qs_c {T : Nat → Nat} {n q f k : Nat} (h : k < n ∧ ¬ T k = q ∧ ¬ T k = 10) (h2 : ¬ T k = 92) : lx_qs T n q (f + 1) k = (ev_b8 (T k) :: (lx_qs T n q f (k + 1)).1, (lx_qs T n q f (k + 1)).2) := (if_pos h).trans (if_neg h2)
theorem lx_qs_s {T : Nat → Nat} {n q f k v m : Nat} (h : k < n ∧ ¬ T k = q ∧ ¬ T k = 10) (h2 : T k = 92) (h3 : lx_es T n (k + 1) = some (v, m)) : lx_qs T n q (f + 1) k = (ev_b8 v :: (lx_qs T n q f (k + 1 + m)).1, (lx_qs T n q f (k + 1 + m)).2) := by
  refine (if_pos h).trans ((if_pos h2).trans ?_)
  rw [h3]
theorem lx_qs_n {T : Nat → Nat} {n q f k : Nat} (h : k < n ∧ ¬ T k = q ∧ ¬ T k = 10) (h2 : T k = 92) (h3 : lx_es T n (k + 1) = none) : lx_qs T n q (f + 1) k = ([], k, 0) := by
  refine (if_pos h).trans ((if_pos h2).trans ?_)
  rw [h3]
/-- whether it is a string -/
def lx_qg (T : Nat → Nat) (n q : Nat) (b : List Nat) (r : List Nat × Nat × Nat) : Prop := r.2.2 = 1 ∧ lx_at T n r.2.1 = q ∧ b.length + r.1.length ≤ 200
/-- the reference's end of a string -/
def qm_fin (F : wq_F) (ls : List (List Nat)) (b : List Nat) (e : Nat) : wq_F :=
  wq_up (wq_up (rs_res (bfw (wq_up F 0 67 3) b) 1 (rh b) (st_ix ls b)).2 0 68 (ev_oI2l (rs_res (bfw (wq_up F 0 67 3) b) 1 (rh b) (st_ix ls b)).1)) 0 69 (e + 1)
theorem bfw_f {F : wq_F} {b : List Nat} {f v : Nat} (h : f ≠ 20) : wq_up (bfw F b) 0 f v = bfw (wq_up F 0 f v) b := by
  funext c i
  unfold bfw wq_up
  by_cases e : c = 0 ∧ i = f
  · obtain ⟨rfl, rfl⟩ := e
    rw [if_pos ⟨rfl, rfl⟩, if_neg (by omega), if_neg (by omega), if_pos ⟨rfl, rfl⟩]
  · rw [if_neg e, if_neg e]
theorem dkL_205_118b {nn : Nat} {F : wq_F} {b : List Nat} {n q k : Nat} (hF : F 0 2 = n) (hn6 : n ≤ 6000) (hb : b.length ≤ 4200) (h : 2147483648 ≤ k ∨ (k < 2147483648 ∧ (¬ lx_at (F 1) n k = q ∨ 200 < b.length))) : dk_205_118 nn (bfw F b) q k = some (0, bfw F b) := by
  have e2 : bfw F b 0 2 = n := by rw [bfw_c (by decide) (by decide)]; exact hF
  have e1 : bfw F b 1 = F 1 := funext fun i => bfw_c (by decide) (by omega)
  unfold dk_205_118
  rcases h with h | ⟨h1, h2⟩
  · rw [if_pos h]
  · rw [if_neg (by omega), dkS_28 h1 (by rw [e2]; exact hn6), od_bS, e1, e2]
    dsimp only
    by_cases z : lx_at (F 1) n k = q
    · rcases h2 with h2 | h2
      · exact absurd z h2
      · rw [if_pos z, if_pos (show ev_s 200 < ev_s (bfw F b 0 20) by rw [bfw_len]; exact (wd_slt (by decide) (by omega)).mpr h2)]
    · rw [if_neg z]
theorem dkL_205_118g {nn : Nat} {F : wq_F} {ls : List (List Nat)} {b : List Nat} {n q k : Nat} (hF : F 0 2 = n) (hn6 : n ≤ 6000) (hb : b.length ≤ 200) (hk : k < 2147483647) (h : lx_at (F 1) n k = q) (hR : rs_ok F ls) (hn : 4200 < nn) (hn2 : ls.length < nn) (hm : ls.length < 3000) (hp : st_off ls ls.length + 200 ≤ 40000) : dk_205_118 nn (bfw F b) q k = some (0, qm_fin F ls b k) := by
  have e2 : bfw F b 0 2 = n := by rw [bfw_c (by decide) (by decide)]; exact hF
  have e1 : bfw F b 1 = F 1 := funext fun i => bfw_c (by decide) (by omega)
  unfold dk_205_118 qm_fin
  rw [if_neg (by omega), dkS_28 (by omega) (by rw [e2]; exact hn6), od_bS, e1, e2]
  dsimp only
  rw [if_pos h, if_neg (show ¬ ev_s 200 < ev_s (bfw F b 0 20) by rw [bfw_len]; exact fun z => absurd ((wd_slt (by decide) (by omega)).mp z) (by omega)), od_upS, bfw_f (by decide), dkS_22 (b := b) (rs_ok_bfw (rs_ok_f hR (by decide) (by decide)) b) (bfw_is _ _) (bfw_len _ _) (by omega) (by omega) hn2 hm (by omega), od_bS, od_upS, od_upS, Nat.mod_eq_of_lt (show k + 1 < 4294967296 by omega)]
/-- the reference's loop over a string -/
theorem dkL_205_21 {nn : Nat} {F : wq_F} {n q : Nat} (hF : F 0 2 = n) (hn6 : n ≤ 6000) (hC : ∀ i, i < n → F 1 i < 256) (hn : 3 < nn) : ∀ g f k : Nat, ∀ b : List Nat, n - k + 2 ≤ g → n - k ≤ f → k ≤ n + 4 → b.length ≤ 201 →
    (lx_qg (F 1) n q b (lx_qs (F 1) n q f k) → dk_205_21 nn g (bfw F b) q k = dk_205_118 nn (bfw F (b ++ (lx_qs (F 1) n q f k).1)) q (lx_qs (F 1) n q f k).2.1) ∧
    (¬ lx_qg (F 1) n q b (lx_qs (F 1) n q f k) → ∃ b', dk_205_21 nn g (bfw F b) q k = some (0, bfw F b'))
  | 0, f, k, b, h, _, _, _ => absurd h (by omega)
  | g + 1, f, k, b, h1, h2, h3, h4 => by
    have e2 : bfw F b 0 2 = n := by rw [bfw_c (by decide) (by decide)]; exact hF
    have e1 : bfw F b 1 = F 1 := funext fun i => bfw_c (by decide) (by omega)
    have hd : dk_205_21 nn (g + 1) (bfw F b) q k = dk_205_21b nn (dk_205_21 nn g) (bfw F b) q k := rfl
    rw [hd]
    unfold dk_205_21b
    rw [if_neg (by omega), e2, e1]
    have fin : lx_qs (F 1) n q f k = ([], k, 1) → (lx_qg (F 1) n q b (lx_qs (F 1) n q f k) → dk_205_118 nn (bfw F b) q k = dk_205_118 nn (bfw F (b ++ (lx_qs (F 1) n q f k).1)) q (lx_qs (F 1) n q f k).2.1) ∧ (¬ lx_qg (F 1) n q b (lx_qs (F 1) n q f k) → ∃ b', dk_205_118 nn (bfw F b) q k = some (0, bfw F b')) := fun e => by
      rw [e]
      refine ⟨fun _ => by rw [List.append_nil], fun z => ⟨b, dkL_205_118b hF hn6 (by omega) (Or.inr ⟨by omega, ?_⟩)⟩⟩
      by_cases y : lx_at (F 1) n k = q
      · by_cases y2 : 200 < b.length
        · exact Or.inr y2
        · exact absurd ⟨rfl, y, by show b.length + 0 ≤ 200; omega⟩ z
      · exact Or.inl y
    by_cases a1 : k < n
    · obtain ⟨f, rfl⟩ : ∃ f', f = f' + 1 := ⟨f - 1, by omega⟩
      rw [if_pos ((wd_slt (by omega) (by omega)).mpr a1), od_g1 (by omega)]
      by_cases a2 : F 1 k = q
      · rw [if_pos a2]
        exact fin (lx_qs_e (fun z => z.2.1 a2))
      rw [if_neg a2, od_g1 (by omega)]
      by_cases a3 : F 1 k = 10
      · rw [if_pos a3]
        exact fin (lx_qs_e (fun z => z.2.2 a3))
      rw [if_neg a3, bfw_len]
      have hc : k < n ∧ ¬ F 1 k = q ∧ ¬ F 1 k = 10 := ⟨a1, a2, a3⟩
      by_cases a4 : 200 < b.length
      · rw [if_pos ((wd_slt (by decide) (by omega)).mpr a4)]
        refine ⟨fun z => absurd z.2.2 (by omega), fun _ => ⟨b, dkL_205_118b hF hn6 (by omega) (Or.inr ⟨by omega, Or.inr a4⟩)⟩⟩
      rw [if_neg (fun z => a4 ((wd_slt (by decide) (by omega)).mp z)), od_g1 (by omega)]
      by_cases a5 : F 1 k = 92
      · rw [if_pos a5, Nat.mod_eq_of_lt (show k + 1 < 4294967296 by omega), dkS_204 hF hn6 hC (by omega) (by omega) hn]
        cases hes : lx_es (F 1) n (k + 1) with
        | none =>
          dsimp only
          rw [od_bS, lx_qs_n hc a5 hes]
          dsimp only
          obtain ⟨g, rfl⟩ : ∃ g', g = g' + 1 := ⟨g - 1, by omega⟩
          refine ⟨fun z => absurd z.1 (show ¬ (0 : Nat) = 1 by decide), fun _ => ⟨b, ?_⟩⟩
          show dk_205_21b nn (dk_205_21 nn g) (bfw F b) q 4294967295 = _
          unfold dk_205_21b
          rw [if_pos (by decide), dkL_205_118b hF hn6 (by omega) (Or.inl (by decide))]
        | some vm =>
          obtain ⟨v, m⟩ := vm
          have hm := lx_es_lt hes
          dsimp only
          rw [od_bS, lx_qs_s hc a5 hes]
          dsimp only
          have hr := dkL_205_21 (q := q) hF hn6 hC hn g f (k + 1 + m) (b ++ [ev_b8 v]) (by omega) (by omega) (by omega) (by rw [List.length_append]; show b.length + 1 ≤ 201; omega)
          rw [List.append_assoc] at hr
          have hg : lx_qg (F 1) n q b (ev_b8 v :: (lx_qs (F 1) n q f (k + 1 + m)).1, (lx_qs (F 1) n q f (k + 1 + m)).2) ↔ lx_qg (F 1) n q (b ++ [ev_b8 v]) (lx_qs (F 1) n q f (k + 1 + m)) := by
            unfold lx_qg
            rw [List.length_append]
            show (_ ∧ _ ∧ b.length + ((lx_qs (F 1) n q f (k + 1 + m)).1.length + 1) ≤ 200) ↔ (_ ∧ _ ∧ b.length + 1 + (lx_qs (F 1) n q f (k + 1 + m)).1.length ≤ 200)
            rw [show b.length + ((lx_qs (F 1) n q f (k + 1 + m)).1.length + 1) = b.length + 1 + (lx_qs (F 1) n q f (k + 1 + m)).1.length by omega]
          exact ⟨fun z => hr.1 (hg.mp z), fun z => hr.2 (fun y => z (hg.mpr y))⟩
      · rw [if_neg a5, od_g1 (by omega), od_g1 (by omega), od_upS, od_letS, wq_up_cell (by decide), bfw_len, od_upS, od_letS, wm_b8b8, Nat.mod_eq_of_lt (show b.length + 1 < 4294967296 by omega), Nat.mod_eq_of_lt (show k + 1 < 4294967296 by omega), bfw_s, lx_qs_c hc a5]
        have hr := dkL_205_21 (q := q) hF hn6 hC hn g f (k + 1) (b ++ [ev_b8 (F 1 k)]) (by omega) (by omega) (by omega) (by rw [List.length_append]; show b.length + 1 ≤ 201; omega)
        rw [List.append_assoc] at hr
        have hg : lx_qg (F 1) n q b (ev_b8 (F 1 k) :: (lx_qs (F 1) n q f (k + 1)).1, (lx_qs (F 1) n q f (k + 1)).2) ↔ lx_qg (F 1) n q (b ++ [ev_b8 (F 1 k)]) (lx_qs (F 1) n q f (k + 1)) := by
          unfold lx_qg
          rw [List.length_append]
          show (_ ∧ _ ∧ b.length + ((lx_qs (F 1) n q f (k + 1)).1.length + 1) ≤ 200) ↔ (_ ∧ _ ∧ b.length + 1 + (lx_qs (F 1) n q f (k + 1)).1.length ≤ 200)
          rw [show b.length + ((lx_qs (F 1) n q f (k + 1)).1.length + 1) = b.length + 1 + (lx_qs (F 1) n q f (k + 1)).1.length by omega]
        exact ⟨fun z => hr.1 (hg.mp z), fun z => hr.2 (fun y => z (hg.mpr y))⟩
    · rw [if_neg (fun z => a1 ((wd_slt (by omega) (by omega)).mp z))]
      exact fin (lx_qs_e (fun z => a1 z.1))
