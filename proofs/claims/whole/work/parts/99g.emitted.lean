/-! ===== 99g: instructions written, chains of jumps led to a place: both sides (wip/whole2/99g.txt) ===== -/
/-- an instruction written (class) -/
def pg_em (G : wq_F) (op a b ln : Nat) : wq_F := wq_up (wq_up (wq_up (wq_up (wq_up G 12 (G 11 4) op) 13 (G 11 4) a) 14 (G 11 4) b) 15 (G 11 4) ln) 11 4 (G 11 4 + 1)
theorem dkS_58 {G : wq_F} {op a b ln : Nat} (h : G 11 4 ≤ 10000) : dk_58 G op a b ln = if G 11 4 < 10000 then some (G 11 4, pg_em G op a b ln) else some (9999, G) := by
  unfold dk_58
  by_cases q : G 11 4 < 10000
  · rw [if_pos ((wd_slt (by omega) (by decide)).mpr q), od_g1 q, od_upS, wq_up_cell (by decide), od_g1 q, od_upS, wq_up_cell (by decide), wq_up_cell (by decide), od_g1 q, od_upS, wq_up_cell (by decide), wq_up_cell (by decide), wq_up_cell (by decide), od_g1 q, od_upS, wq_up_cell (by decide), wq_up_cell (by decide), wq_up_cell (by decide), wq_up_cell (by decide), od_letS, od_upS, Nat.mod_eq_of_lt (show G 11 4 + 1 < 4294967296 by omega), wq_up_same, od_letS, show (G 11 4 + 1 + (4294967296 - 1)) % 4294967296 = G 11 4 by omega, if_pos q]
    rfl
  · rw [if_neg (fun z => q ((wd_slt (by omega) (by decide)).mp z)), od_letS, show (G 11 4 + (4294967296 - 1)) % 4294967296 = 9999 by omega, if_neg q]
theorem dkS_78 {G : wq_F} {op a b ln : Nat} (h : G 11 4 < 10000) : dk_78 G op a b ln = some (G 11 4, pg_em G op a b ln) := by
  unfold dk_78
  rw [dkS_58 (Nat.le_of_lt h), if_pos h, od_bS]
/-- what an instruction written leaves -/
theorem pg_em_ne {G : wq_F} {op a b ln c i : Nat} (h1 : ¬ (12 ≤ c ∧ c ≤ 15 ∧ i = G 11 4)) (h2 : ¬ (c = 11 ∧ i = 4)) : pg_em G op a b ln c i = G c i := by
  unfold pg_em
  rw [wq_up_ne h2, wq_up_ne (by omega), wq_up_ne (by omega), wq_up_ne (by omega), wq_up_ne (by omega)]
theorem pg_em_at {G : wq_F} {op a b ln : Nat} : pg_em G op a b ln 12 (G 11 4) = op ∧ pg_em G op a b ln 13 (G 11 4) = a ∧ pg_em G op a b ln 14 (G 11 4) = b ∧ pg_em G op a b ln 15 (G 11 4) = ln ∧ pg_em G op a b ln 11 4 = G 11 4 + 1 := by
  unfold pg_em
  refine ⟨?_, ?_, ?_, ?_, wq_up_same _ _ _ _⟩
  · rw [wq_up_cell (by decide), wq_up_cell (by decide), wq_up_cell (by decide), wq_up_cell (by decide), wq_up_same]
  · rw [wq_up_cell (by decide), wq_up_cell (by decide), wq_up_cell (by decide), wq_up_same]
  · rw [wq_up_cell (by decide), wq_up_cell (by decide), wq_up_same]
  · rw [wq_up_cell (by decide), wq_up_same]
/-- heights of the class -/
theorem dkS_162 {G : wq_F} {h l : Nat} (hl : G 59 8 = l) (h24 : l < 24) : dk_162 G h = some (0, wq_up G 64 l h) := by
  unfold dk_162
  rw [hl, od_g1 h24, od_upS]
theorem dkS_163 {G : wq_F} {h l : Nat} (hl : G 59 8 = l) (h24 : l < 24) : dk_163 G h = some (0, wq_up G 64 l ((G 64 l + h) % 4294967296)) := by
  unfold dk_163
  rw [hl, od_g1 h24, od_letS, od_g1 h24, od_upS]
theorem dkS_164 {G : wq_F} {l : Nat} (hl : G 59 8 = l) (h24 : l < 24) : dk_164 G = some (G 65 l, G) := by
  unfold dk_164
  rw [hl, od_g1 h24]
theorem dkS_165 {G : wq_F} {h l : Nat} (hl : G 59 8 = l) (h24 : l < 24) : dk_165 G h = some (0, wq_up G 65 l h) := by
  unfold dk_165
  rw [hl, od_g1 h24, od_upS]
theorem dkS_84 {G : wq_F} {l : Nat} (hl : G 59 8 = l) (h24 : l < 24) : dk_84 G = some (G 64 l, G) := by
  unfold dk_84
  rw [hl, od_g1 h24]
theorem pg_em_59 {G : wq_F} {op a b ln i : Nat} {c : Nat} (hc : 15 < c) : pg_em G op a b ln c i = G c i := pg_em_ne (by omega) (by omega)
theorem dkS_112 {G : wq_F} {op a ln by' l : Nat} (hl : G 59 8 = l) (h24 : l < 24) (h : G 11 4 < 10000) : dk_112 G op a ln by' = some (0, wq_up (pg_em G op a 0 ln) 64 l ((G 64 l + by') % 4294967296)) := by
  unfold dk_112
  rw [dkS_78 h, od_bS]
  dsimp only
  rw [dkS_163 (l := l) (by rw [pg_em_59 (by decide)]; exact hl) h24, od_bS, pg_em_59 (by decide)]
theorem dkS_113 {G : wq_F} {h l : Nat} (hl : G 59 8 = l) (h24 : l < 24) (hs : G 11 4 < 10000) : dk_113 G h = some (0, wq_up (pg_em G 27 h 0 0) 64 l h) := by
  unfold dk_113
  rw [dkS_78 hs, od_bS]
  dsimp only
  rw [dkS_162 (l := l) (by rw [pg_em_59 (by decide)]; exact hl) h24, od_bS]
theorem dkS_132 {G : wq_F} {h l : Nat} (hl : G 59 8 = l) (h24 : l < 24) (hs : G 11 4 < 10000) : dk_132 G h = if G 64 l = h then some (0, G) else some (0, wq_up (pg_em G 27 h 0 0) 64 l h) := by
  unfold dk_132
  rw [dkS_84 hl h24, od_bS]
  dsimp only
  by_cases q : G 64 l = h
  · rw [if_pos q, if_pos q]
  · rw [if_neg q, if_neg q, dkS_113 hl h24 hs, od_bS]
/-- a chain: each place holds the one before it, the first a negative number -/
def jc (R : Nat → Nat) : Nat → Nat → List Nat → Prop
  | j, _, [] => 2147483648 ≤ j ∧ j < 4294967296
  | j, b, i :: L => j = i ∧ i < b ∧ jc R (R i) i L
theorem jc_len {R : Nat → Nat} : ∀ {L : List Nat} {j b : Nat}, jc R j b L → L.length ≤ b
  | [], _, _, _ => Nat.zero_le _
  | i :: L, j, b, h => by
    have := jc_len h.2.2
    have := h.2.1
    show L.length + 1 ≤ b
    omega
theorem jc_lt {R : Nat → Nat} : ∀ {L : List Nat} {j b : Nat}, jc R j b L → ∀ i ∈ L, i < b
  | [], _, _, _, i, hi => by cases hi
  | k :: L, j, b, h, i, hi => by
    have h2 := h.2.1
    rcases List.mem_cons.mp hi with e | e
    · omega
    · have := jc_lt h.2.2 i e
      omega
theorem jc_ext {R S : Nat → Nat} : ∀ {L : List Nat} {j b : Nat}, jc R j b L → (∀ i ∈ L, S i = R i) → jc S j b L
  | [], _, _, h, _ => h
  | i :: L, j, b, h, e => ⟨h.1, h.2.1, by
    rw [e i (List.mem_cons_self ..)]
    exact jc_ext h.2.2 (fun k hk => e k (List.mem_cons_of_mem _ hk))⟩
theorem jc_le {R : Nat → Nat} {b' : Nat} : ∀ {L : List Nat} {j b : Nat}, jc R j b L → b ≤ b' → jc R j b' L
  | [], _, _, h, _ => h
  | i :: L, j, b, h, e => ⟨h.1, Nat.lt_of_lt_of_le h.2.1 e, h.2.2⟩
/-- all places of a list hold a value -/
def jl_up (F : wq_F) (c : Nat) (L : List Nat) (v : Nat) : wq_F := fun k i => if k = c ∧ i ∈ L then v else F k i
theorem jl_nil (F : wq_F) (c v : Nat) : jl_up F c [] v = F := funext fun k => funext fun i => if_neg (fun z => by cases z.2)
theorem jl_cons {F : wq_F} {c i v : Nat} {L : List Nat} : jl_up (wq_up F c i v) c L v = jl_up F c (i :: L) v := funext fun k => funext fun t => by
  unfold jl_up
  by_cases q : k = c ∧ t ∈ L
  · rw [if_pos q, if_pos ⟨q.1, List.mem_cons_of_mem _ q.2⟩]
  · rw [if_neg q]
    by_cases z : k = c ∧ t = i
    · rw [if_pos ⟨z.1, by rw [z.2]; exact List.mem_cons_self ..⟩, z.1, z.2, wq_up_same]
    · rw [wq_up_ne z, if_neg (fun y => by
        rcases List.mem_cons.mp y.2 with e | e
        · exact z ⟨y.1, e⟩
        · exact q ⟨y.1, e⟩)]
theorem jl_at {F : wq_F} {c v i : Nat} {L : List Nat} (h : i ∈ L) : jl_up F c L v c i = v := if_pos ⟨rfl, h⟩
theorem jl_ne {F : wq_F} {c v k i : Nat} {L : List Nat} (h : ¬ (k = c ∧ i ∈ L)) : jl_up F c L v k i = F k i := if_neg h
/-- land, along a good chain -/
theorem dkL_159 {nn s : Nat} : ∀ (L : List Nat) (g j b k : Nat) (F : wq_F), jc (F 14) j b L → b ≤ 10000 → k + L.length ≤ 10000 → L.length < g → F 11 4 = s → dk_159_4 nn g F j k = some (0, jl_up F 14 L s)
  | [], 0, _, _, _, _, _, _, _, hg, _ => absurd hg (by decide)
  | [], g + 1, j, b, k, F, h, _, hk, _, _ => by
    show dk_159_4b nn (dk_159_4 nn g) F j k = _
    unfold dk_159_4b
    have hk : k + 0 ≤ 10000 := hk
    rw [jl_nil, if_pos h.1]
    by_cases q : k < 10000
    · rw [if_pos ((wd_slt (by omega) (by decide)).mpr q)]
    · rw [if_neg (fun z => q ((wd_slt (by omega) (by decide)).mp z))]
  | i :: L, 0, _, _, _, _, _, _, _, hg, _ => absurd hg (Nat.not_lt_zero _)
  | i :: L, g + 1, j, b, k, F, h, hb, hk, hg, hs => by
    show dk_159_4b nn (dk_159_4 nn g) F j k = _
    unfold dk_159_4b
    have hk : k + (L.length + 1) ≤ 10000 := hk
    have hg : L.length + 1 < g + 1 := hg
    obtain ⟨h1, h2, h3⟩ := h
    rw [h1, if_pos ((wd_slt (by omega) (by decide)).mpr (by omega)), if_neg (show ¬ 2147483648 ≤ i by omega), od_g1 (show i < 10000 by omega), od_g1 (show i < 10000 by omega), od_upS, od_letS, Nat.mod_eq_of_lt (show k + 1 < 4294967296 by omega), hs, ← jl_cons]
    exact dkL_159 L g (F 14 i) i (k + 1) (wq_up F 14 i s) (jc_ext h3 (fun t ht => wq_up_at (by have := jc_lt h3 t ht; omega))) (by omega) (by omega) (by omega) (by rw [wq_up_cell (by decide)]; exact hs)
theorem dkS_159 {nn j : Nat} {L : List Nat} {G : wq_F} (h : jc (G 14) j 10000 L) (hn : 10000 < nn) : dk_159 nn G j = some (0, jl_up G 14 L (G 11 4)) := by
  unfold dk_159
  have hl := jc_len h
  exact dkL_159 L nn j 10000 0 G h (Nat.le_refl _) (by omega) (by omega) rfl
/-- land, along whatever chain stays in the rows -/
theorem dkA_159 {nn s : Nat} (hs2 : s < 10000) : ∀ (g j k : Nat) (F : wq_F), (j < 10000 ∨ (2147483648 ≤ j ∧ j < 4294967296)) → (∀ i, i < 10000 → F 14 i < 10000 ∨ (2147483648 ≤ F 14 i ∧ F 14 i < 4294967296)) → k ≤ 10000 → 10000 - k < g → F 11 4 = s → ∃ G, dk_159_4 nn g F j k = some (0, G) ∧ (∀ i, i < 10000 → G 14 i < 10000 ∨ (2147483648 ≤ G 14 i ∧ G 14 i < 4294967296)) ∧ (∀ c i, c ≠ 14 → G c i = F c i)
  | 0, _, _, _, _, _, _, hg, _ => absurd hg (Nat.not_lt_zero _)
  | g + 1, j, k, F, hj, h, hk, hg, hs => by
    show ∃ G, dk_159_4b nn (dk_159_4 nn g) F j k = some (0, G) ∧ _
    unfold dk_159_4b
    by_cases q : k < 10000
    · rw [if_pos ((wd_slt (by omega) (by decide)).mpr q)]
      rcases hj with e | e
      · rw [if_neg (by omega), od_g1 e, od_g1 e, od_upS, od_letS, Nat.mod_eq_of_lt (show k + 1 < 4294967296 by omega), hs]
        obtain ⟨G, d1, d2, d3⟩ := dkA_159 (nn := nn) hs2 g (F 14 j) (k + 1) (wq_up F 14 j s) (h j e) (fun i hi => by
          by_cases z : i = j
          · rw [z, wq_up_same]
            exact Or.inl hs2
          · rw [wq_up_at z]
            exact h i hi) (by omega) (by omega) (by rw [wq_up_cell (by decide)]; exact hs)
        exact ⟨G, d1, d2, fun c i hc => by rw [d3 c i hc, wq_up_cell hc]⟩
      · rw [if_pos e.1]
        exact ⟨F, rfl, h, fun _ _ _ => rfl⟩
    · rw [if_neg (fun z => q ((wd_slt (by omega) (by decide)).mp z))]
      exact ⟨F, rfl, h, fun _ _ _ => rfl⟩
/-- a loop's end (class) -/
theorem dkS_120 {nn h o l : Nat} {L : List Nat} {G : wq_F} (hl : G 59 8 = l) (h24 : l < 24) (hj : jc (G 14) (G 65 l) 10000 L) (hs : G 11 4 < 10000) (hn : 10000 < nn) : dk_120 nn G h o = some (0, wq_up (pg_em (wq_up (jl_up G 14 L (G 11 4)) 65 l o) 27 h 0 0) 64 l h) := by
  unfold dk_120
  rw [dkS_164 hl h24, od_bS]
  dsimp only
  rw [dkS_159 hj hn, od_bS]
  dsimp only
  have e : ∀ c i, c ≠ 14 → jl_up G 14 L (G 11 4) c i = G c i := fun c i hc => jl_ne (fun z => hc z.1)
  rw [dkS_165 (l := l) (by rw [e 59 8 (by decide)]; exact hl) h24, od_bS]
  dsimp only
  rw [dkS_113 (l := l) (by rw [wq_up_cell (by decide), e 59 8 (by decide)]; exact hl) h24 (by rw [wq_up_cell (by decide), e 11 4 (by decide)]; exact hs), od_bS]
/-- an instruction written (reference) -/
def pm_em (F : wq_F) (op a b ln : Nat) : wq_F := wq_up (wq_up (wq_up (wq_up (wq_up F 20 (F 0 41) op) 21 (F 0 41) a) 22 (F 0 41) b) 23 (F 0 41) ln) 0 41 (F 0 41 + 1)
theorem dkS_30 {F : wq_F} {op a b ln : Nat} (q : F 0 41 < 14000) : dk_30 F op a b ln = some (F 0 41, pm_em F op a b ln) := by
  unfold dk_30
  rw [od_g1 q, od_upS, wq_up_cell (by decide), od_g1 q, od_upS, wq_up_cell (by decide), wq_up_cell (by decide), od_g1 q, od_upS, wq_up_cell (by decide), wq_up_cell (by decide), wq_up_cell (by decide), od_g1 q, od_upS, wq_up_cell (by decide), wq_up_cell (by decide), wq_up_cell (by decide), wq_up_cell (by decide), od_letS, od_upS, Nat.mod_eq_of_lt (show F 0 41 + 1 < 4294967296 by omega), wq_up_same, od_letS, show (F 0 41 + 1 + (4294967296 - 1)) % 4294967296 = F 0 41 by omega]
  rfl
theorem pm_em_ne {F : wq_F} {op a b ln c i : Nat} (h1 : ¬ (20 ≤ c ∧ c ≤ 23 ∧ i = F 0 41)) (h2 : ¬ (c = 0 ∧ i = 41)) : pm_em F op a b ln c i = F c i := by
  unfold pm_em
  rw [wq_up_ne h2, wq_up_ne (by omega), wq_up_ne (by omega), wq_up_ne (by omega), wq_up_ne (by omega)]
theorem pm_em_at {F : wq_F} {op a b ln : Nat} : pm_em F op a b ln 20 (F 0 41) = op ∧ pm_em F op a b ln 21 (F 0 41) = a ∧ pm_em F op a b ln 22 (F 0 41) = b ∧ pm_em F op a b ln 23 (F 0 41) = ln ∧ pm_em F op a b ln 0 41 = F 0 41 + 1 := by
  unfold pm_em
  refine ⟨?_, ?_, ?_, ?_, wq_up_same _ _ _ _⟩
  · rw [wq_up_cell (by decide), wq_up_cell (by decide), wq_up_cell (by decide), wq_up_cell (by decide), wq_up_same]
  · rw [wq_up_cell (by decide), wq_up_cell (by decide), wq_up_cell (by decide), wq_up_same]
  · rw [wq_up_cell (by decide), wq_up_cell (by decide), wq_up_same]
  · rw [wq_up_cell (by decide), wq_up_same]
/-- a wait put on the reference's nest -/
def pm_la (F : wq_F) (k x y z : Nat) : wq_F := wq_up (wq_up (wq_up (wq_up (wq_up F 25 (F 0 46) k) 26 (F 0 46) x) 27 (F 0 46) y) 28 (F 0 46) z) 0 46 (F 0 46 + 1)
theorem dkS_31 {F : wq_F} {k x y z : Nat} (q : F 0 46 < 4000) : dk_31 F k x y z = some (0, pm_la F k x y z) := by
  unfold dk_31
  rw [od_g1 q, od_upS, wq_up_cell (by decide), od_g1 q, od_upS, wq_up_cell (by decide), wq_up_cell (by decide), od_g1 q, od_upS, wq_up_cell (by decide), wq_up_cell (by decide), wq_up_cell (by decide), od_g1 q, od_upS, wq_up_cell (by decide), wq_up_cell (by decide), wq_up_cell (by decide), wq_up_cell (by decide), od_letS, od_upS, Nat.mod_eq_of_lt (show F 0 46 + 1 < 4294967296 by omega)]
  rfl
theorem pm_la_at {F : wq_F} {k x y z : Nat} : pm_la F k x y z 25 (F 0 46) = k ∧ pm_la F k x y z 26 (F 0 46) = x ∧ pm_la F k x y z 27 (F 0 46) = y ∧ pm_la F k x y z 28 (F 0 46) = z ∧ pm_la F k x y z 0 46 = F 0 46 + 1 := by
  unfold pm_la
  refine ⟨?_, ?_, ?_, ?_, wq_up_same _ _ _ _⟩
  · rw [wq_up_cell (by decide), wq_up_cell (by decide), wq_up_cell (by decide), wq_up_cell (by decide), wq_up_same]
  · rw [wq_up_cell (by decide), wq_up_cell (by decide), wq_up_cell (by decide), wq_up_same]
  · rw [wq_up_cell (by decide), wq_up_cell (by decide), wq_up_same]
  · rw [wq_up_cell (by decide), wq_up_same]
theorem pm_la_ne {F : wq_F} {k x y z c i : Nat} (h1 : ¬ (25 ≤ c ∧ c ≤ 28 ∧ i = F 0 46)) (h2 : ¬ (c = 0 ∧ i = 46)) : pm_la F k x y z c i = F c i := by
  unfold pm_la
  rw [wq_up_ne h2, wq_up_ne (by omega), wq_up_ne (by omega), wq_up_ne (by omega), wq_up_ne (by omega)]
/-- a loop's end (reference): the chain of its breaks led here, its locals end -/
theorem dkL_228 {nn s a : Nat} (hs2 : s < 14000) : ∀ (L : List Nat) (g j b : Nat) (F : wq_F), jc (F 21) j b L → b ≤ 14000 → L.length < g → F 0 41 = s → dk_228_20 nn g F a j = some (0, pm_em (jl_up F 21 L s) 20 a 0 0)
  | [], 0, _, _, _, _, _, hg, _ => absurd hg (by decide)
  | [], g + 1, j, b, F, h, _, _, hs => by
    show dk_228_20b nn (dk_228_20 nn g) F a j = _
    unfold dk_228_20b
    rw [jl_nil, if_pos h.1, dkS_30 (by omega), od_bS]
  | i :: L, 0, _, _, _, _, _, hg, _ => absurd hg (Nat.not_lt_zero _)
  | i :: L, g + 1, j, b, F, h, hb, hg, hs => by
    show dk_228_20b nn (dk_228_20 nn g) F a j = _
    unfold dk_228_20b
    have hg : L.length + 1 < g + 1 := hg
    obtain ⟨h1, h2, h3⟩ := h
    rw [h1, if_neg (show ¬ 2147483648 ≤ i by omega), od_g1 (show i < 14000 by omega), od_g1 (show i < 14000 by omega), od_upS, hs, ← jl_cons]
    exact dkL_228 hs2 L g (F 21 i) i (wq_up F 21 i s) (jc_ext h3 (fun t ht => wq_up_at (by have := jc_lt h3 t ht; omega))) (by omega) (by omega) (by rw [wq_up_cell (by decide)]; exact hs)
theorem dkS_228 {nn a d : Nat} {L : List Nat} {F : wq_F} (hd : F 0 56 = d + 1) (h64 : d < 64) (hj : jc (F 21) (F 33 d) 14000 L) (hs : F 0 41 < 14000) (hn : 14000 < nn) : dk_228 nn F a = some (0, pm_em (jl_up (wq_up F 0 56 d) 21 L (F 0 41)) 20 a 0 0) := by
  unfold dk_228
  have hl := jc_len hj
  rw [od_letS, od_upS, hd, show (d + 1 + (4294967296 - 1)) % 4294967296 = d by omega, wq_up_same, od_g1 h64, wq_up_cell (by decide)]
  exact dkL_228 hs L nn (F 33 d) 14000 (wq_up F 0 56 d) (jc_ext hj (fun t _ => wq_up_cell (by decide))) (Nat.le_refl _) (by omega) (wq_up_at (by decide))
