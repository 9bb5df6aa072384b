/-! ===== a50: values that become locals; the reference's rows of names (wip/whole2/lawa50.py) ===== -/
def em19 (v0 : Nat) : Nat → wq_F → wq_F
  | 0, F => F
  | m + 1, F => em19 v0 m (pm_em F 19 (v0 + m) 0 0)
theorem em19_c {v0 d j : Nat} : ∀ {m : Nat} {F : wq_F}, ¬ (20 ≤ d ∧ d ≤ 23 ∧ F 0 41 ≤ j ∧ j < F 0 41 + m) → ¬ (d = 0 ∧ j = 41) → em19 v0 m F d j = F d j
  | 0, F, _, _ => rfl
  | m + 1, F, h1, h2 => by
    have e : pm_em F 19 (v0 + m) 0 0 0 41 = F 0 41 + 1 := pm_em_at.2.2.2.2
    show em19 v0 m (pm_em F 19 (v0 + m) 0 0) d j = _
    rw [em19_c (by rw [e]; omega) h2, pm_em_ne (by omega) (by omega)]
theorem em19_41 {v0 : Nat} : ∀ {m : Nat} {F : wq_F}, em19 v0 m F 0 41 = F 0 41 + m
  | 0, F => rfl
  | m + 1, F => by
    have e : pm_em F 19 (v0 + m) 0 0 0 41 = F 0 41 + 1 := pm_em_at.2.2.2.2
    show em19 v0 m (pm_em F 19 (v0 + m) 0 0) 0 41 = _
    rw [em19_41, e]
    omega
theorem em19_at {v0 : Nat} : ∀ {m x : Nat} {F : wq_F}, x < m → em19 v0 m F 20 (F 0 41 + x) = 19 ∧ em19 v0 m F 21 (F 0 41 + x) = v0 + (m - 1 - x)
  | 0, x, F, h => absurd h (Nat.not_lt_zero _)
  | m + 1, x, F, h => by
    have z := pm_em_at (F := F) (op := 19) (a := v0 + m) (b := 0) (ln := 0)
    have e := z.2.2.2.2
    show em19 v0 m (pm_em F 19 (v0 + m) 0 0) 20 (F 0 41 + x) = 19 ∧ em19 v0 m (pm_em F 19 (v0 + m) 0 0) 21 (F 0 41 + x) = v0 + (m + 1 - 1 - x)
    cases x with
    | zero =>
      rw [em19_c (by rw [e]; omega) (by omega), em19_c (by rw [e]; omega) (by omega)]
      exact ⟨z.1, z.2.1⟩
    | succ y =>
      have ih := em19_at (v0 := v0) (m := m) (x := y) (F := pm_em F 19 (v0 + m) 0 0) (by omega)
      rw [e, show F 0 41 + 1 + y = F 0 41 + (y + 1) by omega] at ih
      exact ⟨ih.1, by rw [ih.2]; omega⟩
theorem rm_fr_em19 {v0 : Nat} {A : wq_F} : ∀ {m : Nat} {F : wq_F}, rm_fr A F → rm_fr A (em19 v0 m F)
  | 0, _, h => h
  | m + 1, _, h => rm_fr_em19 (m := m) (rm_fr_em h)
theorem dkL_231 {nn i0 cnt v0 : Nat} : ∀ (m g : Nat) (F : wq_F), m ≤ 50 → v0 + m ≤ 50 → F 0 41 + m < 14000 → m < g → dk_231_34 nn g F i0 cnt v0 ((m + 4294967295) % 4294967296) = dk_231_63 nn nn (em19 v0 m F) i0 cnt v0 0
  | m, 0, _, _, _, _, h => absurd h (Nat.not_lt_zero _)
  | 0, g + 1, F, _, _, _, _ => by
    show dk_231_34b nn (dk_231_34 nn g) F i0 cnt v0 ((0 + 4294967295) % 4294967296) = _
    unfold dk_231_34b
    rw [if_pos (by decide)]
    rfl
  | m + 1, g + 1, F, h1, h2, h3, h4 => by
    show dk_231_34b nn (dk_231_34 nn g) F i0 cnt v0 ((m + 1 + 4294967295) % 4294967296) = _
    unfold dk_231_34b
    rw [show (m + 1 + 4294967295) % 4294967296 = m by omega, if_neg (by omega), Nat.mod_eq_of_lt (show v0 + m < 4294967296 by omega), dkS_30 (by omega), od_bS]
    dsimp only
    rw [od_letS]
    have e : pm_em F 19 (v0 + m) 0 0 0 41 = F 0 41 + 1 := pm_em_at.2.2.2.2
    exact dkL_231 m g _ (by omega) (by omega) (by rw [e]; omega) (by omega)
/-- the names known -/
def kn (F : wq_F) (b i0 v0 m : Nat) : wq_F := fun d j => if d = 29 ∧ b ≤ j ∧ j < b + m then F 11 (i0 + 2 * (j - b)) else if d = 30 ∧ b ≤ j ∧ j < b + m then v0 + (j - b) else if d = 0 ∧ j = 50 then b + m else F d j
theorem kn_c {F : wq_F} {b i0 v0 m d j : Nat} (h1 : ¬ ((d = 29 ∨ d = 30) ∧ b ≤ j ∧ j < b + m)) (h2 : ¬ (d = 0 ∧ j = 50)) : kn F b i0 v0 m d j = F d j := by
  unfold kn
  rw [if_neg (by omega), if_neg (by omega), if_neg h2]
theorem kn_29 {F : wq_F} {b i0 v0 m j : Nat} (h : j < m) : kn F b i0 v0 m 29 (b + j) = F 11 (i0 + 2 * j) := by
  unfold kn
  rw [if_pos (by omega), Nat.add_sub_cancel_left]
theorem kn_30 {F : wq_F} {b i0 v0 m j : Nat} (h : j < m) : kn F b i0 v0 m 30 (b + j) = v0 + j := by
  unfold kn
  rw [if_neg (by omega), if_pos (by omega), Nat.add_sub_cancel_left]
theorem kn_50 {F : wq_F} {b i0 v0 m : Nat} : kn F b i0 v0 m 0 50 = b + m := by
  unfold kn
  rw [if_neg (by omega), if_neg (by omega), if_pos (by omega)]
theorem kn_0 {F : wq_F} {b i0 v0 : Nat} (h : F 0 50 = b) : kn F b i0 v0 0 = F := funext fun d => funext fun j => by
  unfold kn
  rw [if_neg (by omega), if_neg (by omega)]
  by_cases z : d = 0 ∧ j = 50
  · rw [if_pos z, z.1, z.2, h]
    rfl
  · rw [if_neg z]
theorem kn_s {F : wq_F} {b i0 v0 v : Nat} : wq_up (wq_up (wq_up (kn F b i0 v0 v) 29 (b + v) (F 11 (i0 + 2 * v))) 30 (b + v) (v0 + v)) 0 50 (b + v + 1) = kn F b i0 v0 (v + 1) := funext fun d => funext fun j => by
  by_cases z1 : d = 0 ∧ j = 50
  · rw [z1.1, z1.2, wq_up_same, kn_50]
    omega
  · rw [wq_up_ne z1]
    by_cases z2 : d = 30 ∧ j = b + v
    · rw [z2.1, z2.2, wq_up_same, kn_30 (Nat.lt_succ_self v)]
    · rw [wq_up_ne z2]
      by_cases z3 : d = 29 ∧ j = b + v
      · rw [z3.1, z3.2, wq_up_same, kn_29 (Nat.lt_succ_self v)]
      · rw [wq_up_ne z3]
        unfold kn
        by_cases y1 : d = 29 ∧ b ≤ j ∧ j < b + v
        · rw [if_pos y1, if_pos (by omega)]
        · rw [if_neg y1, if_neg (show ¬ (d = 29 ∧ b ≤ j ∧ j < b + (v + 1)) by omega)]
          by_cases y2 : d = 30 ∧ b ≤ j ∧ j < b + v
          · rw [if_pos y2, if_pos (by omega)]
          · rw [if_neg y2, if_neg (show ¬ (d = 30 ∧ b ≤ j ∧ j < b + (v + 1)) by omega), if_neg z1, if_neg z1]
theorem kn_220 {F : wq_F} {b i0 v0 v : Nat} (hb : b + v < 1600) : dk_220 (kn F b i0 v0 v) (F 11 (i0 + 2 * v)) (v0 + v) = some (0, kn F b i0 v0 (v + 1)) := by
  rw [dkS_220 (b := b + v) kn_50 hb, kn_s]
theorem dkL_63 {nn i0 cnt v0 b : Nat} {F : wq_F} (hb : b + cnt < 1600) (hi : i0 + 2 * cnt < 1503) (hv : v0 + cnt < 4294967296) (h11 : ∀ j, j < cnt → F 11 (i0 + 2 * j) < 4294967296) : ∀ g v, v ≤ cnt → cnt - v < g → dk_231_63 nn g (kn F b i0 v0 v) i0 cnt v0 v = some (1, kn F b i0 v0 cnt)
  | 0, v, _, h => absurd h (Nat.not_lt_zero _)
  | g + 1, v, h1, h2 => by
    show dk_231_63b nn (dk_231_63 nn g) (kn F b i0 v0 v) i0 cnt v0 v = _
    unfold dk_231_63b
    by_cases q : v < cnt
    · have e : (i0 + ev_oMul 2 v) % 4294967296 = i0 + 2 * v := by
        show (i0 + (2 * v) % 4294967296) % 4294967296 = _
        omega
      rw [if_pos ((wd_slt (by omega) (by omega)).mpr q), od_letS, e, od_g1 (by omega), od_letS, kn_c (by omega) (by omega), tb_l2i (h11 v q), Nat.mod_eq_of_lt (show v0 + v < 4294967296 by omega), kn_220 (by omega), od_bS]
      dsimp only
      rw [od_letS, Nat.mod_eq_of_lt (show v + 1 < 4294967296 by omega)]
      exact dkL_63 hb hi hv h11 g (v + 1) q (by omega)
    · rw [if_neg (fun z => q ((wd_slt (by omega) (by omega)).mp z)), show v = cnt by omega]
theorem dv_2 : ∀ r, r < 32 → ev_oDiv r 2 = r / 2 ∧ ev_oAnd r 1 = r % 2 := by decide +kernel
theorem dv_100 : ∀ a, a < 51 → ∀ b, b < 51 → ev_oDiv (a * 100 + b) 100 = a ∧ ev_oRem (a * 100 + b) 100 = b := by decide +kernel
theorem lcs_len : ∀ {m s : Nat}, (lcs s m).length = m
  | 0, _ => rfl
  | m + 1, s => by
    show (lcs s m).length + 1 = m + 1
    rw [lcs_len]
theorem fs_lcs_c {c : List Nat} {s : Nat} (h : fs c) (hc : ∀ e ∈ c, e < s + 5) : ∀ {m : Nat}, fs (lcs s m ++ c)
  | 0 => h
  | m + 1 => fs_c (fs_lcs_c h hc (m := m)) (fun e he => by
    rcases List.mem_append.mp he with z | z
    · have := (mem_lcs z).2
      omega
    · have := hc e z
      omega)
theorem cx_at_app {a c : List Nat} {p s : Nat} (h : cx_at a p s) : cx_at (a ++ c) (hg c + p) s := by
  obtain ⟨x, b, e, hb⟩ := h
  exact ⟨x, b ++ c, by rw [e, List.append_assoc]; rfl, by rw [hg_app, hb]; omega⟩
/-- values become locals: the reference alone -/
theorem sg_19 {H J : wq_F} {nm : Nat → Nat → Prop} {X : pt → Prop} {f q v0 : Nat} {c : List Nat} (hc : ∀ e ∈ c, e < v0 + 5) : ∀ (m p : Nat) (a : List Nat), (∀ x, x < m → H 20 (p + x) = 19 ∧ H 21 (p + x) = v0 + (m - 1 - x)) → v0 + m ≤ 50 → (∀ e ∈ a, v0 + m + 5 ≤ e) → sg H J nm X (f, p + m, q, a ++ (lcs v0 m ++ c)) → sg H J nm X (f, p, q, a ++ (List.replicate m 0 ++ c))
  | 0, p, a, _, _, _, h => h
  | m + 1, p, a, h1, h2, h3, h => by
    have z := h1 0 (Nat.succ_pos m)
    rw [Nat.add_zero] at z
    have z2 : H 21 p = v0 + m := by rw [z.2]; omega
    refine sg_1 (k := 19) ⟨z.1, by rw [z2]; omega, a, List.replicate m 0 ++ c, rfl, fun e he => by have := h3 e he; omega, ?_, rfl⟩ ?_
    · rw [z2]
      intro hz
      rcases List.mem_append.mp hz with y | y
      · have := h3 _ y
        omega
      · have y2 : v0 + m + 5 ∈ List.replicate (m + 1) 0 ++ c := y
        rcases List.mem_append.mp y2 with y | y
        · have := rep_lt y
          omega
        · have := hc _ y
          omega
    · show sg H J nm X (f, p + 1, q, a ++ (H 21 p + 5) :: (List.replicate m 0 ++ c))
      rw [z2, show a ++ (v0 + m + 5) :: (List.replicate m 0 ++ c) = (a ++ [v0 + m + 5]) ++ (List.replicate m 0 ++ c) by rw [List.append_assoc]; rfl]
      refine sg_19 hc m (p + 1) (a ++ [v0 + m + 5]) (fun x hx => ?_) (by omega) (fun e he => ?_) ?_
      · have y := h1 (x + 1) (by omega)
        rw [show p + 1 + x = p + (x + 1) by omega]
        exact ⟨y.1, by rw [y.2]; omega⟩
      · rcases List.mem_append.mp he with y | y
        · have := h3 e y
          omega
        · rw [List.mem_singleton.mp y]
          omega
      · rw [show p + 1 + m = p + (m + 1) by omega, List.append_assoc]
        exact h
theorem ka_y {F H : wq_F} {w nw m : Nat} {lv : Nat → Prop} (h : ∀ c j, (12 ≤ c ∧ c ≤ 19 ∧ ¬ c = 14) ∨ (20 ≤ c ∧ c ≤ 23 ∧ j < w) ∨ (c = 24 ∧ j < nw) → H c j = F c j) : ka F H w nw m lv := ⟨fun c p a b d => h c p (by omega), fun k a => h 24 k (by omega), fun g a b => ⟨⟨h 12 g (by omega), h 13 g (by omega), h 15 g (by omega), h 16 g (by omega)⟩, fun k hk => ⟨h 18 _ (by omega), h 19 _ (by omega)⟩⟩, fun g a => ⟨by rw [h 15 g (by omega)]; exact Nat.le_refl _, h 12 g (by omega), h 13 g (by omega)⟩⟩
theorem kb_y {F H : wq_F} {w nw m : Nat} {lv : Nat → Prop} (h : ∀ c j, (17 ≤ c ∧ c ≤ 23 ∧ ¬ c = 19) ∨ (12 ≤ c ∧ c ≤ 15 ∧ j < w) ∨ (c = 16 ∧ j < nw) → H c j = F c j) (h19 : ∀ g, F 19 g ≤ H 19 g) : kb F H w nw m lv := ⟨fun c p a b d => h c p (by omega), fun k a => h 16 k (by omega), fun g a b => ⟨⟨h 17 g (by omega), h 18 g (by omega), h 20 g (by omega), h 22 g (by omega)⟩, fun k hk => h 23 _ (by omega)⟩, fun g a => ⟨h 17 g (by omega), h 18 g (by omega), h19 g⟩⟩
theorem pj_y {ls cs : List (List Nat)} {lv : Nat → Prop} {f : Nat} {cb : List Nat} {A B A' B' : wq_F} {w s nw ns m : Nat} {c : List Nat} (h : ∀ d j, (12 ≤ d ∧ d ≤ 19 ∧ ¬ d = 14) ∨ (20 ≤ d ∧ d ≤ 23 ∧ j < w) ∨ (d = 24 ∧ j < nw) → A' d j = A d j) (g : ∀ d j, (17 ≤ d ∧ d ≤ 23 ∧ ¬ d = 19) ∨ (12 ≤ d ∧ d ≤ 15 ∧ j < s) ∨ (d = 16 ∧ j < ns) → B' d j = B d j) (g19 : ∀ x, B 19 x ≤ B' 19 x) : pj ls cs lv f cb A B w s nw ns m c A' B' w s nw ns m c [] [] := ⟨⟨Nat.le_refl _, Nat.le_refl _, Nat.le_refl _, Nat.le_refl _, Nat.le_refl _⟩, ka_y h, kb_y g g19, ⟨fun j hj => absurd hj (List.not_mem_nil), fun j hj => absurd hj (List.not_mem_nil)⟩, fun _ _ _ _ _ _ _ _ _ _ _ e => e⟩
section
variable {nn : Nat} {T : Nat → Nat} {n M O : Nat} {G0 : wq_F} {c0 : List (List Nat)} {i t w s nw ns np N : Nat} {off voff ph : Nat → Nat} {cx : Nat → List Nat} {c cb : List Nat} {W : List (Nat × Nat × Nat × Nat)} {L : List (Nat × Nat)} {P Q : List (Nat × Nat × Nat)} {ls cs : List (List Nat)} {F G : wq_F}

theorem ry_em19 {v0 : Nat} : ∀ {m w : Nat} {F : wq_F}, ry T n M i ls t w nw np W L P F → ry T n M i ls t (w + m) nw np W L P (em19 v0 m F)
  | 0, _, _, h => h
  | m + 1, w, F, h => by
    have z := ry_em19 (v0 := v0) (m := m) (ry_em (op := 19) (a := v0 + m) (b := 0) (ln := 0) h)
    rw [show w + 1 + m = w + (m + 1) by omega] at z
    exact z
/-- so many values: adjusted, or as many as there are -/
theorem adj_ok {r cnt m ln : Nat} {a : List Nat} (hr : ry T n M i ls t w nw np W L P F) (hc : cy T n G0 c0 O i cs s ns np N Q G) (hb : bz N off voff ph cx (a ++ 1 :: c) np F ls G cs) (hnp : np ≤ 50) (hs : s < 9000) (hw : w < 13000) (hh : hg c < 100000) (hcnt : cnt ≤ 50) (hr1 : 1 ≤ m ∧ m ≤ 15) (ha : (r = m * 2 ∧ a = List.replicate m 0) ∨ (r = m * 2 + 1 ∧ a = 2 :: List.replicate (m - 1) 0)) : wok (dk_129 G r (hg c) cnt ln) (fun _ K => ∃ s', s ≤ s' ∧ s' ≤ s + 1 ∧ eg T n M G0 c0 O N off voff ph cx cb F G i ls cs w s nw ns np (a ++ 1 :: c) t W L P Q (pm_em (pm_em F 17 0 0 ln) 18 cnt 0 0) K i ls cs (w + 2) s' nw ns np (List.replicate cnt 0 ++ c)) := by
  have hw1 : F 0 41 = w := hr.2.1.2.1
  have at1 := pm_em_at (F := F) (op := 17) (a := 0) (b := 0) (ln := ln)
  have at2 := pm_em_at (F := pm_em F 17 0 0 ln) (op := 18) (a := cnt) (b := 0) (ln := 0)
  have w2 : pm_em F 17 0 0 ln 0 41 = w + 1 := by rw [at1.2.2.2.2, hw1]
  rw [hw1] at at1
  rw [w2] at at2
  have r2 : ry T n M i ls t (w + 1 + 1) nw np W L P (pm_em (pm_em F 17 0 0 ln) 18 cnt 0 0) := ry_em (ry_em hr)
  have b2 := bz_em (op := 18) (a := cnt) (b := 0) (ln := 0) (bz_em (op := 17) (a := 0) (b := 0) (ln := ln) hb)
  have x2 : ∀ d j, (12 ≤ d ∧ d ≤ 19) ∨ (20 ≤ d ∧ d ≤ 23 ∧ j < w) ∨ (d = 24 ∧ j < nw) → pm_em (pm_em F 17 0 0 ln) 18 cnt 0 0 d j = F d j := fun d j q => by
    rw [pm_em_ne (by rw [w2]; omega) (by omega), pm_em_ne (by rw [hw1]; omega) (by omega)]
  have y2 : pm_em (pm_em F 17 0 0 ln) 18 cnt 0 0 20 w = 17 ∧ pm_em (pm_em F 17 0 0 ln) 18 cnt 0 0 23 w = ln := ⟨by rw [pm_em_ne (by rw [w2]; omega) (by omega)]; exact at1.1, by rw [pm_em_ne (by rw [w2]; omega) (by omega)]; exact at1.2.2.2.1⟩
  have y3 : pm_em (pm_em F 17 0 0 ln) 18 cnt 0 0 20 (w + 1) = 18 ∧ pm_em (pm_em F 17 0 0 ln) 18 cnt 0 0 21 (w + 1) = cnt := ⟨at2.1, at2.2.1⟩
  generalize pm_em (pm_em F 17 0 0 ln) 18 cnt 0 0 = H at *
  have ra : row_a a := by
    rcases ha with ⟨_, z⟩ | ⟨_, z⟩
    · exact Or.inl fun e he => by rw [z] at he; exact rep_lt he
    · exact Or.inr ⟨_, z, fun e he => rep_lt he⟩
  have hlow : ∀ e ∈ a ++ [1], e < 5 := fun e he => (List.mem_append.mp he).elim (row_a_lt ra e) (fun z => by rw [List.mem_singleton.mp z]; decide)
  have hat : ∀ (K : wq_F) k, voff (N - 1) ≤ k → k < voff N → cx_at (a ++ 1 :: c) (K 61 (ph k)) (H 30 k) → cx_at (List.replicate cnt 0 ++ c) (K 61 (ph k)) (H 30 k) := fun K k _ _ z => cx_at_up (cx_at_dn (a := a ++ [1]) hlow (by rw [List.append_assoc]; exact z)) _
  have hfr : ∀ e ∈ List.replicate cnt 0 ++ c, e < H 14 (G 62 (N - 1)) + 5 := fun e he => by
    rcases List.mem_append.mp he with z | z
    · rw [rep_lt z]
      omega
    · exact bz_fr b2 e (List.mem_append_right _ (List.mem_cons_of_mem _ z))
  have hhg : hg (List.replicate cnt 0 ++ c) = hg c + cnt := by rw [hg_app, hg_rep]; omega
  -- adjusted
  have adj : wok (dk_129_26 G (hg c) cnt ln) (fun _ K => ∃ s', s ≤ s' ∧ s' ≤ s + 1 ∧ eg T n M G0 c0 O N off voff ph cx cb F G i ls cs w s nw ns np (a ++ 1 :: c) t W L P Q H K i ls cs (w + 2) s' nw ns np (List.replicate cnt 0 ++ c)) := by
    unfold dk_129_26
    refine wok_b (cy_78 (op := 28) (a := hg c) (b := cnt) (ln := ln) hc b2 (by omega) (okj_p (by omega))) fun r1 K1 h1 => ?_
    dsimp only
    obtain ⟨_, c1, b1, i1, q1, _⟩ := h1
    rw [Nat.mod_eq_of_lt (show hg c + cnt < 4294967296 by omega)]
    refine wok_b (cy_162 (d := List.replicate cnt 0 ++ c) c1 b1 hhg.symm (hat K1) (by rw [q1 62 _ (by omega)]; exact hfr)) fun r2' K2 h2 => ?_
    obtain ⟨c2, b3, q2, _⟩ := h2
    have qq : qf s ns G K2 := qf_trans q1 q2 (by omega) (by omega)
    refine wok_r ?_
    dsimp only
    refine ⟨s + 1, by omega, Nat.le_refl _, r2, c2, b3, pj_1 ⟨by omega, by omega, by omega, by omega⟩ x2 (fun d j q => qq d j (by omega)) (fun H' J nm ha2 hb2 _ => Or.inl ⟨16, ?_, ?_, ?_, ?_, a, c, rfl, ra, ?_, ?_, ?_, ?_⟩), ⟨st_sf_refl _, st_pre_refl _, ⟨fun l _ => ⟨qq 62 l (by omega), qq 65 l (by omega)⟩, fun l _ e6 h6 => qq e6 l (by omega)⟩⟩, Nat.le_refl _, hnp⟩
    · rw [ha2.1 20 w (by decide) (by decide) (by omega) (by omega)]
      exact y2.1
    · rw [ha2.1 20 (w + 1) (by decide) (by decide) (by omega) (by omega)]
      exact y3.1
    · rw [hb2.1 12 s (by decide) (by decide) (by omega) (by omega), q2 12 s (by omega)]
      exact i1.1
    · rw [ha2.1 23 w (by decide) (by decide) (by omega) (by omega), y2.2, hb2.1 15 s (by decide) (by decide) (by omega) (by omega), q2 15 s (by omega), i1.2.2.2]
    · rw [hb2.1 13 s (by decide) (by decide) (by omega) (by omega), q2 13 s (by omega)]
      exact i1.2.1
    · rw [ha2.1 21 (w + 1) (by decide) (by decide) (by omega) (by omega), y3.2, hb2.1 14 s (by decide) (by decide) (by omega) (by omega), q2 14 s (by omega), i1.2.2.1]
    · rw [hb2.1 14 s (by decide) (by decide) (by omega) (by omega), q2 14 s (by omega), i1.2.2.1]
      omega
    · rw [hb2.1 14 s (by decide) (by decide) (by omega) (by omega), q2 14 s (by omega), i1.2.2.1]
  unfold dk_129
  rcases ha with ⟨hr0, ea⟩ | ⟨hr0, ea⟩
  · have dv := dv_2 r (by omega)
    refine wok_f (by rw [dv.2]; omega) ?_
    unfold dk_129_12
    refine wok_t rfl ?_
    rw [dv.1, show r / 2 = m by omega]
    by_cases q : m = cnt
    · refine wok_t q ?_
      rw [Nat.mod_eq_of_lt (show hg c + cnt < 4294967296 by omega)]
      refine wok_b (cy_162 (d := List.replicate cnt 0 ++ c) hc b2 hhg.symm (hat G) hfr) fun r2' K2 h2 => ?_
      obtain ⟨c2, b3, q2, _⟩ := h2
      refine wok_r ?_
      dsimp only
      refine ⟨s, Nat.le_refl _, by omega, r2, c2, b3, pj_1 ⟨by omega, by omega, by omega, by omega⟩ x2 (fun d j q => q2 d j (by omega)) (fun H' J nm ha2 hb2 _ => Or.inl ⟨17, ?_, ?_, ?_, c, ?_, ?_⟩), ⟨st_sf_refl _, st_pre_refl _, ⟨fun l _ => ⟨q2 62 l (by omega), q2 65 l (by omega)⟩, fun l _ e6 h6 => q2 e6 l (by omega)⟩⟩, Nat.le_refl _, hnp⟩
      · rw [ha2.1 20 w (by decide) (by decide) (by omega) (by omega)]
        exact y2.1
      · rw [ha2.1 20 (w + 1) (by decide) (by decide) (by omega) (by omega)]
        exact y3.1
      · rw [ha2.1 21 (w + 1) (by decide) (by decide) (by omega) (by omega), y3.2]
        omega
      · rw [ha2.1 21 (w + 1) (by decide) (by decide) (by omega) (by omega), y3.2, ea, q]
      · rw [ha2.1 21 (w + 1) (by decide) (by decide) (by omega) (by omega), y3.2]
    · exact wok_f q adj
  · have dv := dv_2 r (by omega)
    refine wok_t (by rw [dv.2]; omega) ?_
    unfold dk_129_12
    exact wok_f (by decide) adj
end
