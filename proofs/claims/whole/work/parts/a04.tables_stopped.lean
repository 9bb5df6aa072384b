/-! ===== a04: a name and = behind it; tables of the stopped class (wip/whole2/lawa04.py) ===== -/
theorem lx_p0_61 {d : Nat} (h : ¬ d = 61) : lx_p0 61 d = 0 := by
  unfold lx_p0 lx_p1 lx_p2 lx_p3 lx_p4 lx_p5 lx_p6 lx_p7
  rw [if_neg (by omega), if_neg (by omega), if_neg (by omega), if_neg (by omega), if_neg (by omega), if_neg (by omega), if_neg (by omega), if_neg (by omega)]
theorem tk_eq {T : Nat → Nat} {n p : Nat} : (lx_at T n p = 61 ∧ ¬ lx_at T n (p + 1) = 61) ↔ (tk_K T n p = 5 ∧ tk_V T n p = 61) := by
  by_cases hp : p < n
  · have ha : lx_at T n p = T p := if_pos hp
    constructor
    · intro ⟨h1, h2⟩
      rw [ha] at h1
      have hs : lx_sgn T n p = (61, p + 1) := by
        unfold lx_sgn
        rw [ha, h1, if_neg (by omega), lx_p0_61 h2, if_neg (by decide), if_neg (by decide)]
      rw [tk_K_in hp]
      unfold tk_V
      rw [h1, hs]
      rw [if_neg (show ¬ ¬ lx_letter 61 = 0 by decide), if_neg (show ¬ ¬ lx_digit 61 = 0 by decide), if_neg (show ¬ (61 = 34 ∨ 61 = 39) by decide), if_neg (show ¬ (61, p + 1).1 = 0 from by show ¬ 61 = 0; decide), if_neg (show ¬ ¬ lx_letter 61 = 0 by decide), if_neg (show ¬ ¬ lx_digit 61 = 0 by decide)]
      exact ⟨rfl, rfl⟩
    · intro ⟨h1, h2⟩
      have hK := tk_K_in (T := T) hp
      rw [h1] at hK
      unfold tk_V at h2
      by_cases a : ¬ lx_letter (T p) = 0
      · exfalso
        rw [if_pos a] at hK
        by_cases b : 0 < lx_word (tk_nb T n p)
        · rw [if_pos b] at hK; cases hK
        · rw [if_neg b] at hK
          by_cases c : 30 < tk_e T n p - p
          · rw [if_pos c] at hK; cases hK
          · rw [if_neg c] at hK; cases hK
      · rw [if_neg a] at hK h2
        by_cases b : ¬ lx_digit (T p) = 0
        · exfalso
          rw [if_pos b] at hK
          have := (lx_num_b hp b).1
          omega
        · rw [if_neg b] at hK h2
          unfold lx_sgn at h2
          by_cases c : lx_at T n p = 46 ∧ lx_at T n (p + 1) = 46 ∧ lx_at T n (p + 2) = 46
          · rw [if_pos c] at h2; cases h2
          · rw [if_neg c] at h2
            by_cases d : 0 < lx_p0 (lx_at T n p) (lx_at T n (p + 1))
            · exfalso
              rw [if_pos d] at h2
              have h2 : lx_p0 (lx_at T n p) (lx_at T n (p + 1)) = 61 := h2
              generalize lx_at T n p = x at *
              generalize lx_at T n (p + 1) = y at *
              unfold lx_p0 lx_p1 lx_p2 lx_p3 lx_p4 lx_p5 lx_p6 lx_p7 at h2
              by_cases q0 : x = 61 ∧ y = 61
              · rw [if_pos q0] at h2; cases h2
              rw [if_neg q0] at h2
              by_cases q1 : x = 126 ∧ y = 61
              · rw [if_pos q1] at h2; cases h2
              rw [if_neg q1] at h2
              by_cases q2 : x = 60 ∧ y = 61
              · rw [if_pos q2] at h2; cases h2
              rw [if_neg q2] at h2
              by_cases q3 : x = 62 ∧ y = 61
              · rw [if_pos q3] at h2; cases h2
              rw [if_neg q3] at h2
              by_cases q4 : x = 60 ∧ y = 60
              · rw [if_pos q4] at h2; cases h2
              rw [if_neg q4] at h2
              by_cases q5 : x = 62 ∧ y = 62
              · rw [if_pos q5] at h2; cases h2
              rw [if_neg q5] at h2
              by_cases q6 : x = 47 ∧ y = 47
              · rw [if_pos q6] at h2; cases h2
              rw [if_neg q6] at h2
              by_cases q7 : x = 46 ∧ y = 46
              · rw [if_pos q7] at h2; cases h2
              rw [if_neg q7] at h2
              cases h2
            · rw [if_neg d] at h2
              have h2 : (if lx_ix (lx_at T n p) = 4294967295 then 0 else lx_at T n p) = 61 := h2
              have h3 : lx_at T n p = 61 := by
                by_cases e : lx_ix (lx_at T n p) = 4294967295
                · rw [if_pos e] at h2; cases h2
                · rw [if_neg e] at h2; exact h2
              refine ⟨h3, fun z => d ?_⟩
              rw [h3, z]
              decide
  · constructor
    · intro ⟨h1, _⟩
      exfalso
      unfold lx_at at h1
      rw [if_neg hp] at h1
      cases h1
    · intro ⟨h1, _⟩
      rw [tk_K6.mpr hp] at h1
      cases h1
section
variable {nn : Nat} {T : Nat → Nat} {n M O : Nat} {G0 : wq_F} {c0 : List (List Nat)} {i t w s nw ns np N : Nat} {off voff ph : Nat → Nat} {cx : Nat → List Nat} {c cb : List Nat} {W : List (Nat × Nat × Nat × Nat)} {L : List (Nat × Nat)} {P Q : List (Nat × Nat × Nat)} {ls cs : List (List Nat)} {F G : wq_F}

/-- the class looks whether = stands behind this name -/
theorem cy_185 (hM : tk_M T n M) (hiM : i ≤ M) (hc : cy T n G0 c0 O i cs s ns np N Q G) (hk : tk_k T n i = 1) : dk_185 G = some (if tk_k T n (i + 1) = 5 ∧ tk_V T n (tk_pos T n (i + 1)) = 61 then 1 else 0, G) := by
  have h3 : G 57 3 = tk_E T n (tk_pos T n i) := hc.1.2.2.1 ⟨by omega, by omega⟩
  have h2 : G 57 2 = n := hc.1.2.2.2.2.2.1.2.2.2.2.1
  have hT : ∀ j, j < n → G 1 j = ev_b8 (T j) ∧ T j < 256 := fun j hj => ⟨hc.1.2.2.2.2.2.1.2.2.2.2.2 j hj, hM.2.2.2.2 j hj⟩
  have hn6 := hM.2.2.2.1
  have hb := tk_E_b (T := T) (n := n) (p := tk_pos T n i) (show ¬ tk_k T n i = 6 by omega) (show ¬ tk_k T n i = 7 by omega)
  have hp : lx_skip (G 1) n (n + 1) (tk_E T n (tk_pos T n i)) = tk_pos T n (i + 1) := lx_skip_b8 hT _ _
  have hle : tk_pos T n (i + 1) ≤ n := lx_skip_le _ _ hb.2.2.1
  have at_ : ∀ j, (lx_at (G 1) n j = 61 ↔ lx_at T n j = 61) := fun j => by
    rcases nx_b8 hT j with e | e
    · rw [e]
    · omega
  have e74 : dk_74 G (tk_E T n (tk_pos T n i)) = some (tk_pos T n (i + 1), G) := by
    unfold dk_74
    rw [od_g1 ⟨by omega, by omega⟩, h2, hp]
  have e186 : ∀ j, j < 2147483648 → dk_186 G j = some (lx_at (G 1) n j, G) := fun j hj => by
    unfold dk_186
    rw [od_g1 ⟨hj, by omega⟩, h2]
  unfold dk_185
  rw [h3, e74, od_bS]
  dsimp only
  rw [e186 _ (by omega), od_bS]
  dsimp only
  rw [Nat.mod_eq_of_lt (show tk_pos T n (i + 1) + 1 < 4294967296 by omega), e186 _ (by omega), od_bS]
  dsimp only
  have key := tk_eq (T := T) (n := n) (p := tk_pos T n (i + 1))
  by_cases q : tk_k T n (i + 1) = 5 ∧ tk_V T n (tk_pos T n (i + 1)) = 61
  · obtain ⟨k1, k2⟩ := key.mpr q
    rw [if_pos ((at_ _).mpr k1), if_neg (fun z => k2 ((at_ _).mp z)), if_pos q]
  · rw [if_neg q]
    by_cases z : lx_at T n (tk_pos T n (i + 1)) = 61
    · rw [if_pos ((at_ _).mpr z)]
      by_cases y : lx_at T n (tk_pos T n (i + 1) + 1) = 61
      · rw [if_pos ((at_ _).mpr y)]
      · exact absurd (key.mp ⟨z, y⟩) q
    · rw [if_neg (fun y => z ((at_ _).mp y))]
/-- the stopped class in a table -/
theorem sx_154 {k e p B D it h : Nat} (hx : sx T n G0 c0 O e p N B G) (hB : B < 9990) (hk : 2 ≤ k) : wok (dk_R nn k 154 [D, it, h] G) (fun _ K => sx T n G0 c0 O e p N (B + 1) K) := by
  obtain ⟨k, rfl⟩ : ∃ m, k = m + 1 := ⟨k - 1, by omega⟩
  rw [dk_Re_154]
  unfold dk_154
  refine wok_b (sx_148 hx (by omega)) fun r K h1 => ?_
  refine wok_b (sx_152 h1.2) fun r' K' h2 => ?_
  refine wok_t h1.1 ?_
  exact wok_b (sx_112 h2 (by omega)) fun r K h => wok_r h
theorem sx_98 {k e p B D h v3 v4 : Nat} {r32 : wq_F → Nat → Nat → Nat → Nat → Option (Nat × wq_F)} {C : Nat → wq_F → Prop} (hx : sx T n G0 c0 O e p N B G) (hB : B < 9990) (hk : 2 ≤ k) (hc2 : ∀ K, sx T n G0 c0 O e p N (B + 1) K → wok (r32 K D h ((v3 + 1) % 4294967296) ((v4 + 1) % 4294967296)) C) : wok (dk_151_98 (dk_R nn k) nn r32 G D h v3 v4) C := by
  unfold dk_151_98
  refine wok_f (sx_ne hx (by decide)) (wok_f (sx_ne hx (by decide)) ?_)
  unfold dk_151_136
  refine wok_t rfl (wok_l ?_)
  refine wok_b (sx_154 hx hB hk) fun r K h1 => ?_
  exact wok_l (hc2 K h1)
theorem sx_32 {k e p D h : Nat} (hk : 2 ≤ k) : ∀ (g v3 v4 B : Nat) (G : wq_F), sx T n G0 c0 O e p N B G → B + (31 - v4) < 9980 → v4 ≤ 31 → 31 < g + v4 → wok (dk_151_32 (dk_R nn k) nn g G D h v3 v4) (fun _ K => sx T n G0 c0 O e p N (B + (31 - v4)) K) := by
  intro g
  induction g with
  | zero => intro v3 v4 B G _ _ h1 h2; omega
  | succ g ih =>
    intro v3 v4 B G hx hB hv hgv
    show wok (dk_151_32b (dk_R nn k) nn (dk_151_32 (dk_R nn k) nn g) G D h v3 v4) _
    unfold dk_151_32b
    have fin : wok ((dk_110 nn G 54).bind fun y2 => (dk_162 y2.2 ((h + 1) % 4294967296)).bind fun y6 => some (0, y6.2)) (fun _ K => sx T n G0 c0 O e p N (B + (31 - v4)) K) := by
      refine wok_b (sx_110 hx (by decide)) fun r K h1 => ?_
      exact wok_b (sx_162 h1) fun r K h1 => wok_r (sx_le h1 (by omega))
    refine wok_i (fun _ => fin) (fun q => ?_)
    have hv2 : v4 ≤ 30 := by
      by_cases z : v4 ≤ 30
      · exact z
      · exact absurd ((wd_slt (by decide) (by omega)).mpr (by omega)) q
    refine wok_f (sx_ne hx (by decide)) (wok_f (sx_ne hx (by decide)) ?_)
    refine wok_b (sx_114 hx) fun r K h1 => ?_
    refine wok_t h1.1 ?_
    refine wok_b (sx_109 h1.2) fun r K h1 => ?_
    refine sx_98 h1 (by omega) hk fun K h2 => ?_
    rw [Nat.mod_eq_of_lt (show v4 + 1 < 4294967296 by omega)]
    exact wok_m (ih _ (v4 + 1) (B + 1) K h2 (by omega) (by omega) (by omega)) fun r K h => sx_le h (by omega)
end
