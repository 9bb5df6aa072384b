/-! ===== 81: names on the class's side: put, wordOfRow, keepTextual, scanName (wip/whole2/81.txt) ===== -/
theorem enR_s (s : Nat) : enR (some s) = s := rfl
theorem enR_n : enR none = 4294967295 := rfl
/-- the row written -/
def xfw (F : wq_F) (b : List Nat) : wq_F := fun c i => if c = 10 ∧ i < b.length then b.getD i 0 else if c = 2 ∧ i = 15 then b.length else F c i
theorem xfw_0 (F : wq_F) : wq_up F 2 15 0 = xfw F [] := by
  funext c i
  unfold xfw wq_up
  rw [if_neg (show ¬ (c = 10 ∧ i < ([] : List Nat).length) from fun z => Nat.not_lt_zero _ z.2)]
  rfl
theorem xfw_s (F : wq_F) (b : List Nat) (v : Nat) : wq_up (wq_up (xfw F b) 10 b.length v) 2 15 (b.length + 1) = xfw F (b ++ [v]) := by
  have hlen : (b ++ [v]).length = b.length + 1 := by rw [List.length_append]; rfl
  funext c i
  unfold xfw
  rw [hlen]
  by_cases e : c = 2 ∧ i = 15
  · obtain ⟨rfl, rfl⟩ := e
    rw [wq_up_same, if_neg (by omega), if_pos ⟨rfl, rfl⟩]
  · rw [wq_up_ne e]
    by_cases e2 : c = 10 ∧ i = b.length
    · obtain ⟨rfl, rfl⟩ := e2
      rw [wq_up_same, if_pos ⟨rfl, by omega⟩, gd_last]
    · rw [wq_up_ne e2]
      by_cases e3 : c = 10 ∧ i < b.length
      · rw [if_pos e3, if_pos ⟨e3.1, by omega⟩, gd_app e3.2]
      · rw [if_neg e3, if_neg e, if_neg (by omega), if_neg e]
theorem xfw_c {F : wq_F} {b : List Nat} {c i : Nat} (h8 : c ≠ 10) (h0 : c = 2 → i ≠ 15) : xfw F b c i = F c i := by
  unfold xfw
  rw [if_neg (fun z => h8 z.1), if_neg (fun z => h0 z.1 z.2)]
theorem xfw_len (F : wq_F) (b : List Nat) : xfw F b 2 15 = b.length := by
  unfold xfw
  rw [if_neg (by omega), if_pos ⟨rfl, rfl⟩]
theorem xfw_is (F : wq_F) (b : List Nat) : bf_is (xfw F b 10) b := by
  intro k hk
  unfold xfw
  rw [if_pos ⟨rfl, hk⟩]
/-- one byte more, if there is room -/
def xput (b : List Nat) (v : Nat) : List Nat := if b.length < 2200 then b ++ [ev_b8 v] else b
theorem xput_len {b : List Nat} {v : Nat} (h : b.length ≤ 2200) : (xput b v).length ≤ 2200 := by
  unfold xput
  by_cases q : b.length < 2200
  · rw [if_pos q, List.length_append]
    show b.length + 1 ≤ 2200
    omega
  · rw [if_neg q]
    exact h
theorem dkS_0 {F : wq_F} {b : List Nat} {v : Nat} (h : b.length ≤ 2200) : dk_0 (xfw F b) v = some (0, xfw F (xput b v)) := by
  unfold dk_0 xput
  rw [xfw_len]
  by_cases q : b.length < 2200
  · rw [if_pos ((wd_slt (by omega) (by decide)).mpr q), if_pos q, od_g1 q, od_upS, wq_up_cell (by decide), xfw_len, od_upS, wm_b8b8, Nat.mod_eq_of_lt (show b.length + 1 < 4294967296 by omega), xfw_s]
  · rw [if_neg (fun z => q ((wd_slt (by omega) (by decide)).mp z)), if_neg q]
theorem cs_ok_f {F : wq_F} {ls : List (List Nat)} (h : cs_ok F ls) {c f v : Nat} (hc : c = 2 ∨ 8 < c) (h1 : c = 2 → f ≠ 8 ∧ f ≠ 9) : cs_ok (wq_up F c f v) ls := cs_ok_up h ⟨wq_up_ne (fun z => (h1 z.1.symm).1 z.2.symm), wq_up_ne (fun z => (h1 z.1.symm).2 z.2.symm)⟩ (fun d h3 h4 => by
  funext i
  exact wq_up_cell (by omega))
theorem cs_ok_xfw {F : wq_F} {ls : List (List Nat)} (h : cs_ok F ls) (b : List Nat) : cs_ok (xfw F b) ls := cs_ok_up h ⟨xfw_c (by decide) (by decide), xfw_c (by decide) (by decide)⟩ (fun d h3 h4 => by
  funext i
  exact xfw_c (by omega) (by omega))
/-- the words stand in front -/
def cs_w (ls : List (List Nat)) : Prop := 21 ≤ ls.length ∧ ∀ t, t < 21 → ls.getD t [] = lx_words.getD t []
theorem st_ix_word {ls : List (List Nat)} (hw : cs_w ls) {b : List Nat} (hnd : ∀ s t, s < t → t < ls.length → ls.getD s [] ≠ ls.getD t []) : (0 < lx_word b → st_ix ls b = some (lx_word b - 1)) ∧ (lx_word b = 0 → ∀ s, st_ix ls b = some s → 21 ≤ s) := by
  constructor
  · intro h
    by_cases q : ∃ t, t < 21 ∧ lx_words.getD t [] = b
    · obtain ⟨t, ht, e⟩ := q
      rw [lx_word_of ht e, Nat.add_sub_cancel]
      unfold st_ix
      cases ho : lx_lst (fun t => decide (ls.getD t [] = b)) ls.length with
      | none =>
        have := lx_lst_none ho t (by have := hw.1; omega)
        rw [decide_eq_true ((hw.2 t ht).trans e)] at this
        cases this
      | some s =>
        have h1 := lx_lst_some ho
        have h2 : ls.getD s [] = b := of_decide_eq_true h1.2
        have h3 : ls.getD t [] = b := (hw.2 t ht).trans e
        have hl := hw.1
        by_cases z : s = t
        · rw [z]
        · exfalso
          by_cases z2 : s < t
          · exact hnd s t z2 (by omega) (h2.trans h3.symm)
          · exact hnd t s (by omega) h1.1 (h3.trans h2.symm)
    · have := lx_word_no (b := b) (fun t ht e => q ⟨t, ht, e⟩)
      omega
  · intro h s hs
    have h1 := lx_lst_some hs
    by_cases z : s < 21
    · have e : lx_words.getD s [] = b := (hw.2 s z).symm.trans (of_decide_eq_true h1.2)
      rw [lx_word_of z e] at h
      omega
    · omega
theorem dkS_182 {n : Nat} {F : wq_F} {ls : List (List Nat)} {b : List Nat} (hR : cs_ok F ls) (hw : cs_w ls) (hb : bf_is (F 10) b) (hlb : F 2 15 = b.length) (hl : b.length ≤ 2200) (hn : b.length < n) (hn2 : ls.length < n) (hm : ls.length ≤ 3000) (hp : st_off ls ls.length ≤ 32768) : dk_182 n F = some (if 0 < lx_word b then lx_word b - 1 else 4294967295, wq_up F 2 6 (xh b)) := by
  have hx := st_ix_word hw (b := b) hR.2.2.1.2.2.2.2
  have hlw := lx_word_lt b
  unfold dk_182
  rw [dkS_8 hR hb hlb hl hn hn2 hm hp, od_bS]
  by_cases q : 0 < lx_word b
  · rw [hx.1 q, if_pos q, enR_s]
    dsimp only
    rw [if_neg (by omega), if_pos ((wd_slt (show lx_word b - 1 < 2147483648 by omega) (by decide)).mpr (show lx_word b - 1 < 21 by omega)), od_letS]
    rw [show (lx_word b - 1 + (4294967296 - 0)) % 4294967296 = lx_word b - 1 by omega]
  · rw [if_neg q]
    cases ho : st_ix ls b with
    | none =>
      rw [enR_n]
      dsimp only
      rw [if_pos (by decide)]
    | some s =>
      have h21 := hx.2 (by omega) s ho
      have hsl := (lx_lst_some ho).1
      rw [enR_s]
      dsimp only
      rw [if_neg (by omega), if_neg (fun z => absurd ((wd_slt (show s < 2147483648 by omega) (by decide)).mp z) (by omega))]
/-- the row becomes a string of the text -/
def kt_res (F : wq_F) (ls : List (List Nat)) (b : List Nat) : Nat × wq_F := match st_ix ls b with
  | some s => (s, wq_up (if F 9 s = 2 then wq_up (wq_up F 2 6 (xh b)) 9 s 3 else wq_up F 2 6 (xh b)) 2 11 ls.length)
  | none => (ls.length, wq_up (wq_up (cs_add (wq_up F 2 6 (xh b))) 9 ls.length 3) 2 11 (ls.length + 1))
theorem dkS_181 {n : Nat} {F : wq_F} {ls : List (List Nat)} {b : List Nat} (hR : cs_ok F ls) (hb : bf_is (F 10) b) (hlb : F 2 15 = b.length) (hl : b.length ≤ 2200) (hn : b.length < n) (hn2 : ls.length < n) (hm : ls.length < 3000) (hp : st_off ls ls.length + b.length ≤ 32768) : dk_181 n F = some (kt_res F ls b) := by
  unfold dk_181
  rw [dkS_8 hR hb hlb hl hn hn2 (by omega) (by omega), od_bS]
  have hk : wq_up F 2 6 (xh b) 2 8 = ls.length := by rw [wq_up_at (by decide)]; exact hR.1
  unfold kt_res
  cases ho : st_ix ls b with
  | none =>
    rw [enR_n]
    dsimp only
    rw [if_pos rfl, dkS_9 (by rw [hk]; exact hm) (by rw [wq_up_same]; exact xh_lt b) (by rw [wq_up_at (by decide), hlb]; exact hl) (by rw [wq_up_at (by decide), wq_up_at (by decide), hlb, hR.2.1]; exact hp), od_bS, hk]
    dsimp only
    rw [od_g1 hm, od_upS, od_upS, wq_up_cell (by decide)]
    have e : cs_add (wq_up F 2 6 (xh b)) 2 8 = ls.length + 1 := by
      unfold cs_add
      rw [wq_up_same, hk]
    rw [e]
    rfl
  | some s =>
    have hsl := (lx_lst_some ho).1
    rw [enR_s]
    dsimp only
    rw [if_neg (by omega), od_g1 (by omega)]
    have e9 : wq_up F 2 6 (xh b) 9 s = F 9 s := wq_up_cell (by decide)
    by_cases q : F 9 s = 2
    · rw [if_pos (e9.trans q), od_g1 (by omega), od_upS, od_upS, wq_up_cell (by decide), hk, if_pos q]
      rfl
    · rw [if_neg (fun z => q (e9.symm.trans z)), od_upS, if_neg q]
      show some (s, wq_up (wq_up F 2 6 (xh b)) 2 11 (wq_up F 2 6 (xh b) 2 8)) = _
      rw [hk]
/-- a name's bytes, as far as the row has room -/
def xnb (T : Nat → Nat) (a k : Nat) : List Nat := lx_bytes T a (min k 2200)
theorem xnb_len (T : Nat → Nat) (a k : Nat) : (xnb T a k).length = min k 2200 := lx_bytes_len _ _ _
theorem xnb_s {T : Nat → Nat} {a k : Nat} (h8 : ev_b8 (T (a + k)) = T (a + k)) : xput (xnb T a k) (T (a + k)) = xnb T a (k + 1) := by
  unfold xput
  rw [xnb_len]
  unfold xnb
  by_cases q : k < 2200
  · rw [if_pos (by omega), h8, show min k 2200 = k by omega, show min (k + 1) 2200 = k + 1 by omega, lx_bytes_s]
  · rw [if_neg (by omega), show min k 2200 = 2200 by omega, show min (k + 1) 2200 = 2200 by omega]
theorem dkL_190_12 {nn : Nat} {F : wq_F} {a n : Nat} (hn6 : n ≤ 6000) (hF : F 57 2 = n) (h8 : ∀ i, i < n → ev_b8 (F 1 i) = F 1 i) : ∀ g k : Nat, a + k ≤ n → n - (a + k) < g → dk_190_12 nn g (xfw F (xnb (F 1) a k)) (a + k) = dk_190_63 nn (xfw F (xnb (F 1) a (lx_nend (F 1) n (n - (a + k)) (a + k) - a))) (lx_nend (F 1) n (n - (a + k)) (a + k))
  | 0, k, h1, h2 => absurd h2 (by omega)
  | g + 1, k, h1, h2 => by
    have hxl : (xnb (F 1) a k).length ≤ 2200 := by
      rw [xnb_len]
      omega
    show dk_190_12b nn (dk_190_12 nn g) (xfw F (xnb (F 1) a k)) (a + k) = _
    unfold dk_190_12b
    rw [xfw_c (c := 57) (by decide) (by decide), hF]
    by_cases q : a + k < n
    · obtain ⟨f, hf⟩ : ∃ f, n - (a + k) = f + 1 := ⟨n - (a + k) - 1, by omega⟩
      have hat : lx_at (F 1) n (a + k) = F 1 (a + k) := if_pos q
      have step : ¬ (lx_letter (lx_at (F 1) n (a + k)) = 0 ∧ lx_digit (lx_at (F 1) n (a + k)) = 0) → dk_190_12 nn g (xfw F (xput (xnb (F 1) a k) (F 1 (a + k)))) ((a + k + 1) % 4294967296) = dk_190_63 nn (xfw F (xnb (F 1) a (lx_nend (F 1) n (n - (a + k)) (a + k) - a))) (lx_nend (F 1) n (n - (a + k)) (a + k)) := fun z => by
        rw [Nat.mod_eq_of_lt (show a + k + 1 < 4294967296 by omega), xnb_s (h8 _ q), hf, lx_nend_s z, show f = n - (a + (k + 1)) by omega, Nat.add_assoc]
        exact dkL_190_12 hn6 hF h8 g (k + 1) (by omega) (by omega)
      rw [if_pos ((wd_slt (by omega) (by omega)).mpr q), od_g1 (by omega), xfw_c (c := 1) (by decide) (by omega)]
      show (some (lx_letter (F 1 (a + k)), xfw F (xnb (F 1) a k))).bind _ = _
      rw [od_bS]
      dsimp only
      by_cases w : lx_letter (F 1 (a + k)) = 0
      · rw [if_pos w, od_g1 (by omega), xfw_c (c := 1) (by decide) (by omega)]
        show (some (lx_digit (F 1 (a + k)), xfw F (xnb (F 1) a k))).bind _ = _
        rw [od_bS]
        dsimp only
        by_cases w2 : lx_digit (F 1 (a + k)) = 0
        · rw [if_pos w2, lx_nend_e (by rw [hat]; exact w) (by rw [hat]; exact w2), Nat.add_sub_cancel_left]
        · rw [if_neg w2, od_g1 (by omega), xfw_c (c := 1) (by decide) (by omega), dkS_0 hxl, od_bS, od_letS]
          exact step (fun z => w2 (by rw [← hat]; exact z.2))
      · rw [if_neg w, od_g1 (by omega), xfw_c (c := 1) (by decide) (by omega), dkS_0 hxl, od_bS, od_letS]
        exact step (fun z => w (by rw [← hat]; exact z.1))
    · rw [if_neg (fun z => q ((wd_slt (by omega) (by omega)).mp z))]
      have e : a + k = n := by omega
      have e2 : lx_nend (F 1) n (n - (a + k)) (a + k) = a + k := by
        rw [show n - (a + k) = 0 by omega]
        rfl
      rw [e2, Nat.add_sub_cancel_left]
/-- what the class reads at a letter -/
def nx_res (F : wq_F) (ls : List (List Nat)) (a e : Nat) : wq_F :=
  if 0 < lx_word (xnb (F 1) a (e - a)) then wq_up (wq_up (wq_up (xfw F (xnb (F 1) a (e - a))) 57 3 e) 2 6 (xh (xnb (F 1) a (e - a)))) 57 4 (9 + lx_word (xnb (F 1) a (e - a)))
  else if 30 < e - a then wq_up (wq_up (wq_up (xfw F (xnb (F 1) a (e - a))) 57 3 e) 2 6 (xh (xnb (F 1) a (e - a)))) 57 4 1
  else wq_up (kt_res (wq_up (wq_up (wq_up (xfw F (xnb (F 1) a (e - a))) 57 3 e) 2 6 (xh (xnb (F 1) a (e - a)))) 57 4 2) ls (xnb (F 1) a (e - a))).2 57 8 (ev_oI2l (kt_res (wq_up (wq_up (wq_up (xfw F (xnb (F 1) a (e - a))) 57 3 e) 2 6 (xh (xnb (F 1) a (e - a)))) 57 4 2) ls (xnb (F 1) a (e - a))).1)
theorem dkS_190 {nn : Nat} {F : wq_F} {ls : List (List Nat)} {a n : Nat} (hn6 : n ≤ 6000) (hF : F 57 2 = n) (hP : F 57 5 = a) (ha : a ≤ n) (h8 : ∀ i, i < n → ev_b8 (F 1 i) = F 1 i) (hR : cs_ok F ls) (hw : cs_w ls) (hn : 6001 < nn) (hn2 : ls.length < nn) (hm : ls.length < 3000) (hp : st_off ls ls.length + 30 ≤ 32768) : dk_190 nn F = some (0, nx_res F ls a (lx_nend (F 1) n (n - a) a)) := by
  unfold dk_190
  show (some (0, wq_up F 2 15 0)).bind _ = _
  rw [od_bS, xfw_0, hP]
  have h := dkL_190_12 (nn := nn) (a := a) hn6 hF h8 nn 0 (by omega) (by omega)
  have h0 : xnb (F 1) a 0 = [] := rfl
  rw [h0, Nat.add_zero] at h
  rw [h]
  have he : lx_nend (F 1) n (n - a) a ≤ n := lx_nend_le _ _ (by omega)
  have he2 := lx_nend_ge (T := F 1) (n := n) (n - a) a
  generalize lx_nend (F 1) n (n - a) a = e at he he2
  have hbl : (xnb (F 1) a (e - a)).length ≤ 2200 := by
    rw [xnb_len]
    omega
  unfold dk_190_63
  rw [od_upS]
  have hG : cs_ok (wq_up (xfw F (xnb (F 1) a (e - a))) 57 3 e) ls := cs_ok_f (cs_ok_xfw hR _) (Or.inr (by decide)) (by decide)
  rw [dkS_182 (b := xnb (F 1) a (e - a)) hG hw (by
    intro k hk
    rw [wq_up_cell (by decide)]
    exact xfw_is F _ k hk) (by rw [wq_up_cell (by decide), xfw_len]) hbl (by omega) hn2 (by omega) (by omega), od_bS]
  have hlw := lx_word_lt (xnb (F 1) a (e - a))
  unfold nx_res
  by_cases w : 0 < lx_word (xnb (F 1) a (e - a))
  · rw [if_pos w, if_pos w]
    dsimp only
    rw [if_neg (by omega), od_upS]
    rw [show (10 + (lx_word (xnb (F 1) a (e - a)) - 1)) % 4294967296 = 9 + lx_word (xnb (F 1) a (e - a)) by omega]
  · rw [if_neg w, if_neg w]
    dsimp only
    rw [if_pos rfl, od_letS, wq_up_cell (by decide), wq_up_same, wq_up_cell (by decide), wq_up_at (by decide), xfw_c (c := 57) (by decide) (by decide), hP, show (e + (4294967296 - a)) % 4294967296 = e - a by omega]
    by_cases l : 30 < e - a
    · rw [if_pos ((wd_slt (by decide) (by omega)).mpr l), if_pos l, od_upS]
    · rw [if_neg (fun z => l ((wd_slt (by decide) (by omega)).mp z)), if_neg l, od_upS]
      rw [dkS_181 (b := xnb (F 1) a (e - a)) (cs_ok_f (cs_ok_f hG (Or.inl rfl) (by decide)) (Or.inr (by decide)) (by decide)) (by
        intro k hk
        rw [wq_up_cell (by decide), wq_up_cell (by decide), wq_up_cell (by decide)]
        exact xfw_is F _ k hk) (by rw [wq_up_cell (by decide), wq_up_at (by decide), wq_up_cell (by decide), xfw_len]) hbl (by omega) hn2 hm (by rw [xnb_len]; omega), od_bS, od_upS]
