/-! ===== 89: the class reads one token (wip/whole2/89.txt) ===== -/
/-- a token's number on the class's side -/
def tk_ty (T : Nat → Nat) (n p : Nat) : Nat :=
  if tk_K T n p = 1 then 2 else if tk_K T n p = 2 then 3 else if tk_K T n p = 3 then 4 else if tk_K T n p = 4 then 9 + tk_V T n p else if tk_K T n p = 5 then lx_sg (tk_V T n p) else if tk_K T n p = 6 then 0 else 1
/-- how many lines end before a place -/
def lc (T : Nat → Nat) : Nat → Nat
  | 0 => 0
  | p + 1 => lc T p + (if T p = 10 then 1 else 0)
theorem lc_mono (T : Nat → Nat) : ∀ {a b : Nat}, a ≤ b → lc T a ≤ lc T b
  | a, 0, h => by
    have : a = 0 := by omega
    rw [this]
    exact Nat.le_refl _
  | a, b + 1, h => by
    by_cases e : a = b + 1
    · rw [e]; exact Nat.le_refl _
    · exact Nat.le_trans (lc_mono T (show a ≤ b by omega)) (Nat.le_add_right _ _)
theorem lc_le (T : Nat → Nat) : ∀ p : Nat, lc T p ≤ p
  | 0 => Nat.le_refl _
  | p + 1 => by
    have := lc_le T p
    show lc T p + (if T p = 10 then 1 else 0) ≤ p + 1
    by_cases q : T p = 10
    · rw [if_pos q]; omega
    · rw [if_neg q]; omega
theorem lc_same {T : Nat → Nat} {a : Nat} : ∀ {b : Nat}, a ≤ b → (∀ j, a ≤ j → j < b → ¬ T j = 10) → lc T b = lc T a
  | 0, h, _ => by
    have : a = 0 := by omega
    rw [this]
  | b + 1, h, hj => by
    by_cases e : a = b + 1
    · rw [e]
    · show lc T b + (if T b = 10 then 1 else 0) = lc T a
      rw [if_neg (hj b (by omega) (by omega)), lc_same (show a ≤ b by omega) (fun j h1 h2 => hj j h1 (by omega))]
      omega
theorem lx_lines_lc {T : Nat → Nat} {m p : Nat} : ∀ f n k : Nat, k ≤ p → m - k ≤ f → lx_lines T m p f n k = n + (lc T (if p ≤ m then p else (if k ≤ m then m else k)) - lc T k)
  | 0, n, k, h1, h2 => by
    show n = _
    by_cases a : p ≤ m
    · have : p = k := by omega
      rw [if_pos a, this]
      omega
    · rw [if_neg a]
      by_cases b : k ≤ m
      · have : k = m := by omega
        rw [if_pos b, this]
        omega
      · rw [if_neg b]
        omega
  | f + 1, n, k, h1, h2 => by
    by_cases q : k < p ∧ k < m
    · rw [lx_lines_s q.1 q.2, lx_lines_lc f _ (k + 1) (by omega) (by omega)]
      have hs : lc T (k + 1) = lc T k + (if T k = 10 then 1 else 0) := rfl
      have e1 : (if p ≤ m then p else (if k ≤ m then m else k)) = (if p ≤ m then p else (if k + 1 ≤ m then m else k + 1)) := by
        by_cases a : p ≤ m
        · rw [if_pos a, if_pos a]
        · rw [if_neg a, if_neg a, if_pos (show k ≤ m by omega), if_pos (show k + 1 ≤ m by omega)]
      have h3 : lc T (k + 1) ≤ lc T (if p ≤ m then p else (if k + 1 ≤ m then m else k + 1)) := lc_mono T (by
        by_cases a : p ≤ m
        · rw [if_pos a]; omega
        · rw [if_neg a, if_pos (show k + 1 ≤ m by omega)]; omega)
      rw [e1]
      by_cases z : T k = 10
      · rw [if_pos z] at hs ⊢
        omega
      · rw [if_neg z] at hs ⊢
        omega
    · rw [lx_lines_e q]
      have e1 : (if p ≤ m then p else (if k ≤ m then m else k)) = k := by
        by_cases a : p ≤ m
        · rw [if_pos a]; omega
        · rw [if_neg a]
          by_cases b : k ≤ m
          · rw [if_pos b]; omega
          · rw [if_neg b]
      rw [e1]
      omega
/-- the reference's line of a place -/
theorem dkS_196 {F : wq_F} {n p : Nat} (hF : F 0 2 = n) (hn6 : n ≤ 6000) (hp : p ≤ n) : dk_196 F p = some (1 + lc (F 1) p, F) := by
  unfold dk_196
  rw [hF, od_g1 ⟨hn6, by omega⟩, lx_lines_lc n 1 0 (Nat.zero_le _) (by omega), if_pos hp]
  rfl
theorem wq_up_id (F : wq_F) (c i : Nat) : wq_up F c i (F c i) = F := by
  funext c' i'
  unfold wq_up
  by_cases h : c' = c ∧ i' = i
  · rw [if_pos h, h.1, h.2]
  · rw [if_neg h]
/-! a string of the text on the class's side -/
theorem kt_res_ok {F : wq_F} {ls : List (List Nat)} {b : List Nat} (hR : cs_ok F ls) (hb : bf_is (F 10) b) (hlb : F 2 15 = b.length) :
    cs_ok (kt_res F ls b).2 (st_with ls b) ∧ (kt_res F ls b).1 < (st_with ls b).length ∧ (st_with ls b).getD (kt_res F ls b).1 [] = b ∧ (kt_res F ls b).2 2 11 = (st_with ls b).length ∧
      (∀ i, (kt_res F ls b).2 9 i = if i = (kt_res F ls b).1 then (if (kt_res F ls b).1 < ls.length then (if F 9 i = 2 then 3 else F 9 i) else 3) else F 9 i) ∧
      (∀ c i, (c < 2 ∨ 9 < c ∨ c = 2) → (c = 2 → i ≠ 6 ∧ i ≠ 8 ∧ i ≠ 9 ∧ i ≠ 11) → (kt_res F ls b).2 c i = F c i) := by
  have hG : cs_ok (wq_up F 2 6 (xh b)) ls := cs_ok_f hR (Or.inl rfl) (by decide)
  unfold kt_res st_with
  cases hi : st_ix ls b with
  | none =>
    have hlen : (ls ++ [b]).length = ls.length + 1 := by rw [List.length_append]; rfl
    have ha : cs_ok (cs_add (wq_up F 2 6 (xh b))) (ls ++ [b]) := cs_add_ok hG (by
      intro k hk
      rw [wq_up_cell (by decide)]
      exact hb k hk) (by rw [wq_up_at (by decide)]; exact hlb) (wq_up_same _ _ _ _) hi
    dsimp only
    refine ⟨cs_ok_f (cs_ok_f ha (Or.inr (by decide)) (by omega)) (Or.inl rfl) (by decide), by omega, st_getD_last ls b, ?_, fun i => ?_, fun c i hc h => ?_⟩
    · rw [wq_up_same, hlen]
    · rw [wq_up_cell (by decide)]
      by_cases e : i = ls.length
      · rw [if_pos e, if_neg (Nat.lt_irrefl _), e, wq_up_same]
      · rw [if_neg e, wq_up_at e, cs_add_c (by decide) (by omega), wq_up_cell (by decide)]
    · rw [wq_up_ne (fun z => by have := h z.1; omega), wq_up_cell (by omega), cs_add_c (by omega) (fun z => by have := h z; omega), wq_up_ne (fun z => by have := h z.1; omega)]
  | some s =>
    have hs := lx_lst_some hi
    dsimp only
    refine ⟨?_, hs.1, of_decide_eq_true hs.2, wq_up_same _ _ _ _, fun i => ?_, fun c i hc h => ?_⟩
    · refine cs_ok_f ?_ (Or.inl rfl) (by decide)
      by_cases q : F 9 s = 2
      · rw [if_pos q]
        exact cs_ok_f hG (Or.inr (by decide)) (by omega)
      · rw [if_neg q]
        exact hG
    · rw [wq_up_cell (by decide)]
      by_cases e : i = s
      · subst e
        rw [if_pos rfl, if_pos hs.1]
        by_cases q : F 9 i = 2
        · rw [if_pos q, if_pos q, wq_up_same]
        · rw [if_neg q, if_neg q, wq_up_cell (by decide)]
      · rw [if_neg e]
        by_cases q : F 9 s = 2
        · rw [if_pos q, wq_up_at e, wq_up_cell (by decide)]
        · rw [if_neg q, wq_up_cell (by decide)]
    · rw [wq_up_ne (fun z => by have := h z.1; omega)]
      by_cases q : F 9 s = 2
      · rw [if_pos q, wq_up_cell (by omega), wq_up_ne (fun z => by have := h z.1; omega)]
      · rw [if_neg q, wq_up_ne (fun z => by have := h z.1; omega)]
/-- one token read by the class, its place, line and number being told: kind, end, value; the strings then; what stays -/
def tx_tok (T : Nat → Nat) (n p : Nat) (F : wq_F) (ls : List (List Nat)) (G : wq_F) (ms : List (List Nat)) : Prop :=
  G 57 4 = tk_ty T n p ∧ (¬ tk_K T n p = 6 ∧ ¬ tk_K T n p = 7 → G 57 3 = tk_E T n p) ∧
  (tk_K T n p = 2 → G 57 8 = 18446744073709551616 + tk_V T n p) ∧
  (¬ (tk_K T n p = 1 ∨ tk_K T n p = 3) → ms = ls ∧ (∀ i, G 9 i = F 9 i) ∧ G 2 11 = F 2 11) ∧
  (tk_K T n p = 1 ∨ tk_K T n p = 3 → ∃ s, G 57 8 = 18446744073709551616 + s ∧ s < ms.length ∧ ms.getD s [] = tk_B T n p ∧ ms = st_with ls (tk_B T n p) ∧ G 2 11 = ms.length ∧ ∀ i, G 9 i = if i = s then (if s < ls.length then (if F 9 i = 2 then 3 else F 9 i) else 3) else F 9 i) ∧
  cs_ok G ms ∧ (∀ c i, (c < 2 ∨ 10 < c ∨ c = 2) → (c = 2 → i ≠ 6 ∧ i ≠ 8 ∧ i ≠ 9 ∧ i ≠ 11 ∧ i ≠ 15) → (c = 57 → i ≠ 3 ∧ i ≠ 4 ∧ i ≠ 8) → G c i = F c i)
/-- a name's or a string's number and memory, the class's side -/
theorem tx_str {F G : wq_F} {ls : List (List Nat)} {b : List Nat} (hm : ls.length < 3000) (hG : ∀ c i, (c < 2 ∨ 10 < c ∨ c = 2 ∨ c = 9) → (c = 2 → i ≠ 6 ∧ i ≠ 8 ∧ i ≠ 9 ∧ i ≠ 11 ∧ i ≠ 15) → (c = 57 → i ≠ 3 ∧ i ≠ 4 ∧ i ≠ 8) → G c i = F c i) (hGR : cs_ok G ls) (hGb : bf_is (G 10) b) (hGl : G 2 15 = b.length) :
    ∃ s, (kt_res G ls b).1 = s ∧ s < (st_with ls b).length ∧ s < 2147483648 ∧ (st_with ls b).getD s [] = b ∧ cs_ok (kt_res G ls b).2 (st_with ls b) ∧ (kt_res G ls b).2 2 11 = (st_with ls b).length ∧ (∀ i, (kt_res G ls b).2 9 i = if i = s then (if s < ls.length then (if F 9 i = 2 then 3 else F 9 i) else 3) else F 9 i) ∧
      (∀ c i, (c < 2 ∨ 10 < c ∨ c = 2) → (c = 2 → i ≠ 6 ∧ i ≠ 8 ∧ i ≠ 9 ∧ i ≠ 11) → (kt_res G ls b).2 c i = G c i) := by
  obtain ⟨k1, k2, k3, k4, k5, k6⟩ := kt_res_ok hGR hGb hGl
  have hl := st_with_len ls b
  refine ⟨_, rfl, k2, by omega, k3, k1, k4, fun i => ?_, fun c i hc h => k6 c i (by omega) h⟩
  rw [k5 i, hG 9 i (by omega) (by omega) (by omega)]
theorem xnb_eq {T : Nat → Nat} {a k : Nat} (h : k ≤ 2200) : xnb T a k = lx_bytes T a k := by
  unfold xnb
  rw [show min k 2200 = k by omega]
/-- a letter -/
theorem tx_name {F : wq_F} {T : Nat → Nat} {ls : List (List Nat)} {n p : Nat} (hp : p < n) (hT : ∀ i, i < n → F 1 i = ev_b8 (T i) ∧ T i < 256) (hR : cs_ok F ls) (hm : ls.length < 3000) (ha : ¬ lx_letter (T p) = 0) : ∃ ms, tx_tok T n p F ls (nx_res F ls p (lx_nend (F 1) n (n - p) p)) ms := by
  have hK := tk_K_in (T := T) (n := n) hp
  rw [if_pos ha] at hK
  have hE : tk_E T n p = tk_e T n p := if_pos ha
  have hV : tk_V T n p = lx_word (tk_nb T n p) := if_pos ha
  have hB : tk_B T n p = tk_nb T n p := if_pos ha
  have nend : ∀ f k : Nat, lx_nend (F 1) n f k = lx_nend T n f k := by
    intro f
    induction f with
    | zero => intro k; rfl
    | succ f ih =>
      intro k
      have e1 := nx_letE hT k
      have e2 := nx_digE hT k
      by_cases q : lx_letter (lx_at T n k) = 0 ∧ lx_digit (lx_at T n k) = 0
      · rw [lx_nend_e q.1 q.2, lx_nend_e (by rw [e1]; exact q.1) (by rw [e2]; exact q.2)]
      · rw [lx_nend_s q, lx_nend_s (by rw [e1, e2]; exact q)]
        exact ih (k + 1)
  have hle : tk_e T n p ≤ n := lx_nend_le _ _ (by omega)
  have hge : p ≤ tk_e T n p := lx_nend_ge _ _
  have hin : ∀ i, i < tk_e T n p - p → F 1 (p + i) = T (p + i) ∧ T (p + i) < 128 := fun i hi => by
    have h2 := lx_nend_in (T := T) (n := n) (n - p) p (p + i) (by omega) (show p + i < tk_e T n p by omega)
    rw [lx_at_of (show p + i < n by omega)] at h2
    have h3 := lx_ld_1 h2
    have h4 := hT (p + i) (by omega)
    exact ⟨h4.1.trans ((lx_b8_c h4.2 h3.2).mpr rfl), h3.2⟩
  have hbytes : ∀ m, m ≤ tk_e T n p - p → lx_bytes (F 1) p m = lx_bytes T p m := fun m h => lx_bytes_ext (fun i hi => (hin i (by omega)).1)
  have hxb : xnb (F 1) p (tk_e T n p - p) = xnb T p (tk_e T n p - p) := hbytes _ (by omega)
  rw [nend]
  show ∃ ms, tx_tok T n p F ls (nx_res F ls p (tk_e T n p)) ms
  have hword : lx_word (xnb T p (tk_e T n p - p)) = lx_word (tk_nb T n p) := by
    by_cases l : tk_e T n p - p ≤ 2200
    · rw [xnb_eq l]
    · rw [lx_word_long (by rw [xnb_len]; omega), lx_word_long (by rw [lx_bytes_len]; omega)]
  have hw := lx_word_lt (tk_nb T n p)
  unfold nx_res
  rw [hxb, hword]
  have fr : ∀ (x y : Nat) c i, (c < 2 ∨ 10 < c ∨ c = 2 ∨ c = 9) → (c = 2 → i ≠ 6 ∧ i ≠ 8 ∧ i ≠ 9 ∧ i ≠ 11 ∧ i ≠ 15) → (c = 57 → i ≠ 3 ∧ i ≠ 4 ∧ i ≠ 8) → wq_up (wq_up (wq_up (xfw F (xnb T p (tk_e T n p - p))) 57 3 (tk_e T n p)) 2 6 x) 57 4 y c i = F c i := fun x y c i hc h1 h2 => by
    rw [wq_up_ne (fun z => by have := h2 z.1; omega), wq_up_ne (fun z => by have := h1 z.1; omega), wq_up_ne (fun z => by have := h2 z.1; omega), xfw_c (by omega) (fun z => by have := h1 z; omega)]
  have ok : ∀ x y, cs_ok (wq_up (wq_up (wq_up (xfw F (xnb T p (tk_e T n p - p))) 57 3 (tk_e T n p)) 2 6 x) 57 4 y) ls := fun x y => cs_ok_f (cs_ok_f (cs_ok_f (cs_ok_xfw hR _) (Or.inr (by decide)) (by decide)) (Or.inl rfl) (by decide)) (Or.inr (by decide)) (by decide)
  by_cases w : 0 < lx_word (tk_nb T n p)
  · rw [if_pos w] at hK
    rw [if_pos w]
    refine ⟨ls, ?_, fun _ => ?_, fun z => ?_, fun _ => ⟨rfl, fun i => fr _ _ 9 i (by decide) (by omega) (by omega), ?_⟩, fun z => ?_, ok _ _, fun c i hc h1 h2 => fr _ _ c i (by omega) h1 h2⟩
    · unfold tk_ty
      rw [hK, wq_up_same, hV]
      rfl
    · rw [hE, wq_up_at (by decide), wq_up_cell (by decide), wq_up_same]
    · omega
    · rw [wq_up_cell (by decide), wq_up_at (by decide), wq_up_cell (by decide), xfw_c (by decide) (by decide)]
    · omega
  · rw [if_neg w] at hK
    rw [if_neg w]
    by_cases l : 30 < tk_e T n p - p
    · rw [if_pos l] at hK
      rw [if_pos l]
      refine ⟨ls, ?_, fun z => absurd hK z.2, fun z => ?_, fun _ => ⟨rfl, fun i => fr _ _ 9 i (by decide) (by omega) (by omega), ?_⟩, fun z => ?_, ok _ _, fun c i hc h1 h2 => fr _ _ c i (by omega) h1 h2⟩
      · unfold tk_ty
        rw [hK, wq_up_same]
        rfl
      · omega
      · rw [wq_up_cell (by decide), wq_up_at (by decide), wq_up_cell (by decide), xfw_c (by decide) (by decide)]
      · omega
    · rw [if_neg l] at hK
      rw [if_neg l]
      have hx : xnb T p (tk_e T n p - p) = tk_nb T n p := xnb_eq (by omega)
      have fr := fr
      rw [hx] at fr ok ⊢
      obtain ⟨s, s1, s2, s3, s4, s5, s6, s7, s8⟩ := tx_str (G := wq_up (wq_up (wq_up (xfw F (tk_nb T n p)) 57 3 (tk_e T n p)) 2 6 (xh (tk_nb T n p))) 57 4 2) hm (fr (xh (tk_nb T n p)) 2) (ok _ _) (by
        intro k hk
        rw [wq_up_cell (by decide), wq_up_cell (by decide), wq_up_cell (by decide)]
        exact xfw_is F _ k hk) (by rw [wq_up_cell (by decide), wq_up_at (by decide), wq_up_cell (by decide), xfw_len])
      rw [s1]
      refine ⟨st_with ls (tk_nb T n p), ?_, fun _ => ?_, fun z => ?_, fun z => absurd (Or.inl hK) z, fun _ => ⟨s, ?_, s2, by rw [hB]; exact s4, by rw [hB], ?_, fun i => ?_⟩, cs_ok_f s5 (Or.inr (by decide)) (by decide), fun c i hc h1 h2 => ?_⟩
      · unfold tk_ty
        rw [hK, wq_up_at (by decide), s8 57 4 (by decide) (by decide), wq_up_same]
        rfl
      · rw [hE, wq_up_at (by decide), s8 57 3 (by decide) (by decide), wq_up_at (by decide), wq_up_cell (by decide), wq_up_same]
      · omega
      · rw [wq_up_same, nx_i2l s3]
      · rw [wq_up_cell (by decide)]
        exact s6
      · rw [wq_up_cell (by decide)]
        exact s7 i
      · rw [wq_up_ne (fun z => by have := h2 z.1; omega), s8 c i hc (fun z => by have := h1 z; omega)]
        exact fr _ _ c i (by omega) h1 h2
