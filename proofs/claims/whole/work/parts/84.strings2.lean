/-! ===== 84: quoted strings: scanQuoted, readString (wip/whole2/84.txt) ===== -/
theorem lx_b8_c {x c : Nat} (hx : x < 256) (hc : c < 128) : ev_b8 x = c ↔ x = c := by
  unfold ev_b8
  rw [Nat.mod_eq_of_lt hx]
  cases hq : x.blt 128
  · have h1 : ¬ x < 128 := wq_bltF hq
    rw [cond_false]
    omega
  · rw [cond_true]
theorem dkL_192_107b {nn : Nat} {F : wq_F} {b : List Nat} {n q k : Nat} (hF : F 57 2 = n) (hn6 : n ≤ 6000) (hb : b.length ≤ 2200) (hk : k < 2147483648) (h : ¬ lx_at (F 1) n k = q ∨ 200 < b.length) : dk_192_107 nn (xfw F b) q k = some (0, wq_up (wq_up (xfw F b) 57 4 1) 57 3 k) := by
  have e2 : wq_up (wq_up (xfw F b) 57 4 1) 57 3 k 57 2 = n := by rw [wq_up_at (by decide), wq_up_at (by decide), xfw_c (by decide) (by decide)]; exact hF
  have e1 : wq_up (wq_up (xfw F b) 57 4 1) 57 3 k 1 = F 1 := funext fun i => by rw [wq_up_cell (by decide), wq_up_cell (by decide), xfw_c (by decide) (by omega)]
  unfold dk_192_107
  rw [od_upS, od_upS]
  unfold dk_186
  rw [od_g1 ⟨hk, by rw [e2]; exact hn6⟩, od_bS, e1, e2]
  dsimp only
  by_cases z : lx_at (F 1) n k = q
  · rcases h with h | h
    · exact absurd z h
    · have e15 : wq_up (wq_up (xfw F b) 57 4 1) 57 3 k 2 15 = b.length := by rw [wq_up_cell (by decide), wq_up_cell (by decide), xfw_len]
      rw [if_pos z]
      show (some (wq_up (wq_up (xfw F b) 57 4 1) 57 3 k 2 15, wq_up (wq_up (xfw F b) 57 4 1) 57 3 k)).bind _ = _
      rw [od_bS, e15]
      dsimp only
      rw [if_pos ((wd_slt (by decide) (by omega)).mpr h)]
  · rw [if_neg z]
/-- the class's end of a string -/
def qx_g (F : wq_F) (b : List Nat) (e : Nat) : wq_F := wq_up (wq_up (wq_up (wq_up (xfw F b) 57 4 1) 57 3 e) 57 4 4) 57 3 (e + 1)
def qx_fin (F : wq_F) (ls : List (List Nat)) (b : List Nat) (e : Nat) : wq_F := wq_up (kt_res (qx_g F b e) ls b).2 57 8 (ev_oI2l (kt_res (qx_g F b e) ls b).1)
theorem dkL_192_107g {nn : Nat} {F : wq_F} {ls : List (List Nat)} {b : List Nat} {n q k : Nat} (hF : F 57 2 = n) (hn6 : n ≤ 6000) (hb : b.length ≤ 200) (hk : k < 2147483647) (h : lx_at (F 1) n k = q) (hR : cs_ok F ls) (hn : 2200 < nn) (hn2 : ls.length < nn) (hm : ls.length < 3000) (hp : st_off ls ls.length + 200 ≤ 32768) : dk_192_107 nn (xfw F b) q k = some (0, qx_fin F ls b k) := by
  have e2 : wq_up (wq_up (xfw F b) 57 4 1) 57 3 k 57 2 = n := by rw [wq_up_at (by decide), wq_up_at (by decide), xfw_c (by decide) (by decide)]; exact hF
  have e1 : wq_up (wq_up (xfw F b) 57 4 1) 57 3 k 1 = F 1 := funext fun i => by rw [wq_up_cell (by decide), wq_up_cell (by decide), xfw_c (by decide) (by omega)]
  have e15 : wq_up (wq_up (xfw F b) 57 4 1) 57 3 k 2 15 = b.length := by rw [wq_up_cell (by decide), wq_up_cell (by decide), xfw_len]
  unfold dk_192_107 qx_fin
  rw [od_upS, od_upS]
  unfold dk_186
  rw [od_g1 ⟨by omega, by rw [e2]; exact hn6⟩, od_bS, e1, e2]
  dsimp only
  rw [if_pos h]
  show (some (wq_up (wq_up (xfw F b) 57 4 1) 57 3 k 2 15, wq_up (wq_up (xfw F b) 57 4 1) 57 3 k)).bind _ = _
  rw [od_bS, e15]
  dsimp only
  rw [if_neg (fun z => absurd ((wd_slt (by decide) (by omega)).mp z) (by omega)), od_upS, od_upS, Nat.mod_eq_of_lt (show k + 1 < 4294967296 by omega)]
  have hc : ∀ c, c ≠ 57 → qx_g F b k c = xfw F b c := fun c hc => by
    funext i
    unfold qx_g
    rw [wq_up_cell hc, wq_up_cell hc, wq_up_cell hc, wq_up_cell hc]
  show (dk_181 nn (qx_g F b k)).bind _ = _
  rw [dkS_181 (b := b) (cs_ok_up (cs_ok_xfw hR b) ⟨by rw [hc 2 (by decide)], by rw [hc 2 (by decide)]⟩ (fun c h3 h4 => hc c (by omega))) (by rw [hc 10 (by decide)]; exact xfw_is F b) (by rw [hc 2 (by decide), xfw_len]) (by omega) (by omega) hn2 hm (by omega), od_bS, od_upS]
theorem xput_le {b : List Nat} {v : Nat} (h : b.length ≤ 2200) : (xput b v).length ≤ 2200 := xput_len h
theorem xput_big {b : List Nat} {v : Nat} : b.length ≤ (xput b v).length ∧ (b.length < 2200 → xput b v = b ++ [ev_b8 v]) := by
  unfold xput
  by_cases q : b.length < 2200
  · rw [if_pos q, List.length_append]
    exact ⟨Nat.le_add_right _ _, fun _ => rfl⟩
  · rw [if_neg q]
    exact ⟨Nat.le_refl _, fun z => absurd z q⟩
/-- the class's loop over a string -/
theorem dkL_192_24 {nn : Nat} {F : wq_F} {T : Nat → Nat} {n q : Nat} (hF : F 57 2 = n) (hn6 : n ≤ 6000) (hT : ∀ i, i < n → F 1 i = ev_b8 (T i) ∧ T i < 256) (hq : q < 128) (hn : 3 < nn) : ∀ g f k : Nat, ∀ b : List Nat, n - k + 1 ≤ g → n - k ≤ f → k ≤ n + 4 → b.length ≤ 2200 →
    ∃ b' : List Nat, b'.length ≤ 2200 ∧ dk_192_24 nn g (xfw F b) q k = dk_192_107 nn (xfw F b') q (lx_qs T n q f k).2.1 ∧ (lx_qs T n q f k).2.1 ≤ n + 4 ∧
      ((lx_qs T n q f k).2.2 = 1 → (b.length + (lx_qs T n q f k).1.length ≤ 2200 → b' = b ++ (lx_qs T n q f k).1) ∧ (2200 < b.length + (lx_qs T n q f k).1.length → 200 < b'.length)) ∧ (¬ (lx_qs T n q f k).2.2 = 1 → lx_at T n (lx_qs T n q f k).2.1 = 92)
  | 0, f, k, b, h, _, _, _ => absurd h (by omega)
  | g + 1, f, k, b, h1, h2, h3, h4 => by
    have e2 : xfw F b 57 2 = n := by rw [xfw_c (by decide) (by decide)]; exact hF
    have e1 : xfw F b 1 = F 1 := funext fun i => xfw_c (by decide) (by omega)
    have hd : dk_192_24 nn (g + 1) (xfw F b) q k = dk_192_24b nn (dk_192_24 nn g) (xfw F b) q k := rfl
    rw [hd]
    unfold dk_192_24b
    rw [e2, e1]
    have fin : lx_qs T n q f k = ([], k, 1) → ∃ b' : List Nat, b'.length ≤ 2200 ∧ dk_192_107 nn (xfw F b) q k = dk_192_107 nn (xfw F b') q (lx_qs T n q f k).2.1 ∧ (lx_qs T n q f k).2.1 ≤ n + 4 ∧
      ((lx_qs T n q f k).2.2 = 1 → (b.length + (lx_qs T n q f k).1.length ≤ 2200 → b' = b ++ (lx_qs T n q f k).1) ∧ (2200 < b.length + (lx_qs T n q f k).1.length → 200 < b'.length)) ∧ (¬ (lx_qs T n q f k).2.2 = 1 → lx_at T n (lx_qs T n q f k).2.1 = 92) := fun e => by
      rw [e]
      refine ⟨b, h4, rfl, h3, fun _ => ⟨fun _ => by rw [List.append_nil], fun z => ?_⟩, fun z => absurd rfl z⟩
      have z : 2200 < b.length + 0 := z
      omega
    by_cases a1 : k < n
    · obtain ⟨f, rfl⟩ : ∃ f', f = f' + 1 := ⟨f - 1, by omega⟩
      have hk := hT k a1
      have c1 : F 1 k = q ↔ T k = q := by rw [hk.1]; exact lx_b8_c hk.2 hq
      have c2 : F 1 k = 10 ↔ T k = 10 := by rw [hk.1]; exact lx_b8_c hk.2 (by decide)
      have c3 : F 1 k = 92 ↔ T k = 92 := by rw [hk.1]; exact lx_b8_c hk.2 (by decide)
      rw [if_pos ((wd_slt (by omega) (by omega)).mpr a1), od_g1 (by omega)]
      by_cases a2 : T k = q
      · rw [if_pos (c1.mpr a2)]
        exact fin (lx_qs_e (fun z => z.2.1 a2))
      rw [if_neg (fun z => a2 (c1.mp z)), od_g1 (by omega)]
      by_cases a3 : T k = 10
      · rw [if_pos (c2.mpr a3)]
        exact fin (lx_qs_e (fun z => z.2.2 a3))
      rw [if_neg (fun z => a3 (c2.mp z)), od_g1 (by omega)]
      have hc : k < n ∧ ¬ T k = q ∧ ¬ T k = 10 := ⟨a1, a2, a3⟩
      by_cases a5 : T k = 92
      · rw [if_pos (c3.mpr a5), Nat.mod_eq_of_lt (show k + 1 < 4294967296 by omega), dkS_193 hF hn6 h4 (by omega) hn, od_bS, lx_es2_b8 hT]
        dsimp only
        cases hes : lx_es T n (k + 1) with
        | none =>
          rw [if_pos (lx_es2_none hes), lx_qs_n hc a5 hes]
          dsimp only
          refine ⟨_, xput_le h4, rfl, by omega, fun z => absurd z (show ¬ (0 : Nat) = 1 by decide), fun _ => ?_⟩
          rw [lx_at_of a1]
          exact a5
        | some vm =>
          obtain ⟨v, m⟩ := vm
          have hm := lx_es_lt hes
          rw [lx_es2_some hes]
          dsimp only
          rw [if_neg (by omega), od_letS, lx_qs_s hc a5 hes, Nat.mod_eq_of_lt (show 1 + m < 4294967296 by omega), Nat.mod_eq_of_lt (show k + (1 + m) < 4294967296 by omega), ← Nat.add_assoc]
          dsimp only
          obtain ⟨b', r1, r2, r3, r4, r5⟩ := dkL_192_24 (q := q) hF hn6 hT hq hn g f (k + 1 + m) (xput b v) (by omega) (by omega) (by omega) (xput_le h4)
          refine ⟨b', r1, r2, r3, fun z => ?_, r5⟩
          have r4 := r4 z
          have hx := xput_big (b := b) (v := v)
          rw [List.length_cons]
          refine ⟨fun y => ?_, fun y => ?_⟩
          · have e := hx.2 (by omega)
            rw [e, List.length_append, List.append_assoc] at r4
            exact r4.1 (by show b.length + 1 + _ ≤ 2200; omega)
          · by_cases w : b.length < 2200
            · have e := hx.2 w
              rw [e, List.length_append] at r4
              exact r4.2 (by show 2200 < b.length + 1 + _; omega)
            · have e : (xput b v).length = b.length := by
                unfold xput
                rw [if_neg w]
              rw [e] at r4
              by_cases u : (lx_qs T n q f (k + 1 + m)).1.length = 0
              · have := r4.1 (by omega)
                rw [this, List.length_append]
                omega
              · exact r4.2 (by omega)
      · rw [if_neg (fun z => a5 (c3.mp z)), od_g1 (by omega), dkS_0 h4, od_bS, od_letS, lx_qs_c hc a5, Nat.mod_eq_of_lt (show k + 1 < 4294967296 by omega)]
        dsimp only
        obtain ⟨b', r1, r2, r3, r4, r5⟩ := dkL_192_24 (q := q) hF hn6 hT hq hn g f (k + 1) (xput b (F 1 k)) (by omega) (by omega) (by omega) (xput_le h4)
        refine ⟨b', r1, r2, r3, fun z => ?_, r5⟩
        have r4 := r4 z
        have hx := xput_big (b := b) (v := F 1 k)
        have h8 : ev_b8 (F 1 k) = ev_b8 (T k) := by rw [hk.1, wm_b8b8]
        rw [List.length_cons]
        refine ⟨fun y => ?_, fun y => ?_⟩
        · have e := hx.2 (by omega)
          rw [e, List.length_append, List.append_assoc, h8] at r4
          exact r4.1 (by show b.length + 1 + _ ≤ 2200; omega)
        · by_cases w : b.length < 2200
          · have e := hx.2 w
            rw [e, List.length_append] at r4
            exact r4.2 (by show 2200 < b.length + 1 + _; omega)
          · have e : (xput b (F 1 k)).length = b.length := by
              unfold xput
              rw [if_neg w]
            rw [e] at r4
            by_cases u : (lx_qs T n q f (k + 1)).1.length = 0
            · have := r4.1 (by omega)
              rw [this, List.length_append]
              omega
            · exact r4.2 (by omega)
    · rw [if_neg (fun z => a1 ((wd_slt (by omega) (by omega)).mp z))]
      exact fin (lx_qs_e (fun z => a1 z.1))
/-- whether a string stands at a place; its bytes, where it ends -/
abbrev lx_str (T : Nat → Nat) (n p : Nat) : List Nat × Nat × Nat := lx_qs T n (T p) n (p + 1)
/-- the class's scanQuoted -/
theorem dkS_192 {nn : Nat} {F : wq_F} {T : Nat → Nat} {ls : List (List Nat)} {n p : Nat} (hF : F 57 2 = n) (hP : F 57 5 = p) (hn6 : n ≤ 6000) (hp : p < n) (hT : ∀ i, i < n → F 1 i = ev_b8 (T i) ∧ T i < 256) (hq : T p = 34 ∨ T p = 39) (hR : cs_ok F ls) (hn : 6002 < nn) (hn2 : ls.length < nn) (hm : ls.length < 3000) (hpo : st_off ls ls.length + 200 ≤ 32768) :
    (lx_qg T n (T p) [] (lx_str T n p) → dk_192 nn F = some (0, qx_fin F ls (lx_str T n p).1 (lx_str T n p).2.1)) ∧
    (¬ lx_qg T n (T p) [] (lx_str T n p) → ∃ (b' : List Nat) (e' : Nat), b'.length ≤ 2200 ∧ dk_192 nn F = some (0, wq_up (wq_up (xfw F b') 57 4 1) 57 3 e')) := by
  have hk := hT p hp
  have hqp : F 1 p = T p := by rw [hk.1]; exact (lx_b8_c hk.2 (by omega)).mpr rfl
  have hd : dk_192 nn F = dk_192_24 nn nn (xfw F []) (T p) (p + 1) := by
    unfold dk_192
    rw [hP, od_g1 (by omega)]
    show (some (0, wq_up F 2 15 0)).bind _ = _
    rw [od_bS, xfw_0, hqp, Nat.mod_eq_of_lt (show p + 1 < 4294967296 by omega)]
  obtain ⟨b', r1, r2, r3, r4, r5⟩ := dkL_192_24 (q := T p) hF hn6 hT (by omega) (show 3 < nn by omega) nn n (p + 1) [] (by omega) (by omega) (by omega) (by decide)
  rw [hd, r2]
  have hat : ∀ k, lx_at (F 1) n k = T p ↔ lx_at T n k = T p := fun k => lx_at_b8 hT (by omega)
  constructor
  · intro ⟨g1, g2, g3⟩
    have g3 : 0 + (lx_str T n p).1.length ≤ 200 := g3
    have h4 := (r4 g1).1 (by show 0 + (lx_str T n p).1.length ≤ 2200; omega)
    rw [h4, List.nil_append]
    exact dkL_192_107g hF hn6 (by show (lx_str T n p).1.length ≤ 200; omega) (by omega) ((hat _).mpr g2) hR (by omega) hn2 hm hpo
  · intro hb
    refine ⟨b', (lx_str T n p).2.1, r1, dkL_192_107b hF hn6 r1 (by omega) ?_⟩
    by_cases f1 : (lx_str T n p).2.2 = 1
    · by_cases f2 : lx_at T n (lx_str T n p).2.1 = T p
      · right
        have f3 : ¬ 0 + (lx_str T n p).1.length ≤ 200 := fun z => hb ⟨f1, f2, z⟩
        have r4 := r4 f1
        by_cases w : 0 + (lx_str T n p).1.length ≤ 2200
        · have := r4.1 w
          rw [this, List.nil_append]
          show 200 < (lx_str T n p).1.length
          omega
        · exact r4.2 (by show 2200 < 0 + (lx_str T n p).1.length; omega)
      · exact Or.inl (fun z => f2 ((hat _).mp z))
    · left
      have := r5 f1
      intro z
      have := (hat _).mp z
      omega
/-- the reference's readString -/
theorem dkS_205 {nn : Nat} {F : wq_F} {ls : List (List Nat)} {n p : Nat} (hF : F 0 2 = n) (hn6 : n ≤ 6000) (hp : p < n) (hC : ∀ i, i < n → F 1 i < 256) (hR : rs_ok F ls) (hn : 6002 < nn) (hn2 : ls.length < nn) (hm : ls.length < 3000) (hpo : st_off ls ls.length + 200 ≤ 40000) :
    (lx_qg (F 1) n (F 1 p) [] (lx_str (F 1) n p) → dk_205 nn F p = some (0, qm_fin (wq_up F 0 67 7) ls (lx_str (F 1) n p).1 (lx_str (F 1) n p).2.1)) ∧
    (¬ lx_qg (F 1) n (F 1 p) [] (lx_str (F 1) n p) → ∃ b' : List Nat, dk_205 nn F p = some (0, bfw (wq_up F 0 67 7) b')) := by
  have hd : dk_205 nn F p = dk_205_21 nn nn (bfw (wq_up F 0 67 7) []) (F 1 p) (p + 1) := by
    unfold dk_205
    rw [dkS_28 (by omega) (by omega), od_bS, hF, lx_at_of hp, od_upS, bfw_0, od_upS, bfw_f (by decide), Nat.mod_eq_of_lt (show p + 1 < 4294967296 by omega)]
  have e1 : wq_up F 0 67 7 1 = F 1 := funext fun i => wq_up_cell (by decide)
  have e2 : wq_up F 0 67 7 0 2 = n := by rw [wq_up_at (by decide)]; exact hF
  have hr := dkL_205_21 (nn := nn) (F := wq_up F 0 67 7) (n := n) (q := F 1 p) e2 hn6 (by rw [e1]; exact hC) (by omega) nn n (p + 1) [] (by omega) (by omega) (by omega) (by decide)
  rw [e1] at hr
  rw [hd]
  constructor
  · intro g
    have g3 : 0 + (lx_str (F 1) n p).1.length ≤ 200 := g.2.2
    rw [hr.1 g, List.nil_append]
    have h4 : (lx_str (F 1) n p).2.1 < n := by
      have := g.2.1
      refine lx_at_in (T := F 1) ?_
      have := hC p hp
      omega
    exact dkL_205_118g e2 hn6 (by show (lx_str (F 1) n p).1.length ≤ 200; omega) (by show (lx_str (F 1) n p).2.1 < 2147483647; omega) (by rw [e1]; exact g.2.1) (rs_ok_f hR (by decide) (by decide)) (by omega) hn2 hm hpo
  · intro g
    exact hr.2 g
