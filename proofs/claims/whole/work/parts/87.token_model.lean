/-! ===== 87: the reference reads one token (wip/whole2/87.txt) ===== -/
theorem rs_res_c {F : wq_F} {sort h : Nat} {o : Option Nat} {c i : Nat} (hc : c ≠ 2 ∧ c ≠ 3 ∧ c ≠ 4 ∧ c ≠ 5 ∧ c ≠ 6 ∧ c ≠ 7) (hi : c = 0 → i ≠ 8 ∧ i ≠ 14) : (rs_res F sort h o).2 c i = F c i := by
  cases o with
  | none => exact rs_add_c hc hi
  | some s => exact wq_up_cell hc.2.2.2.1
theorem rs_res_5 {F : wq_F} {h : Nat} {o : Option Nat} (i : Nat) : (rs_res F 1 h o).2 5 i = if i = (rs_res F 1 h o).1 then 1 else F 5 i := by
  cases o with
  | none =>
    show rs_add F 1 h 5 i = if i = F 0 14 then 1 else F 5 i
    unfold rs_add
    rw [wq_up_cell (by decide), cpb_c (by decide), wq_up_cell (by decide), wq_up_cell (by decide)]
    by_cases e : i = F 0 14
    · rw [if_pos e, e, wq_up_same]
    · rw [if_neg e, wq_up_at e, wq_up_cell (by decide), wq_up_cell (by decide), wq_up_cell (by decide)]
  | some s =>
    show wq_up F 5 s (if (1 : Nat) = 1 then 1 else F 5 s) 5 i = if i = s then 1 else F 5 i
    rw [if_pos rfl]
    by_cases e : i = s
    · rw [if_pos e, e, wq_up_same]
    · rw [if_neg e, wq_up_at e]
/-- one token read: kind, end, value; the strings then; what stays -/
def tm_tok (T : Nat → Nat) (n p : Nat) (F : wq_F) (ls : List (List Nat)) (G : wq_F) (ms : List (List Nat)) : Prop :=
  G 0 67 = tk_K T n p ∧ (¬ tk_K T n p = 6 ∧ ¬ tk_K T n p = 7 → G 0 69 = tk_E T n p) ∧
  (tk_K T n p = 2 ∨ tk_K T n p = 4 ∨ tk_K T n p = 5 → G 0 68 = 18446744073709551616 + tk_V T n p) ∧
  (¬ (tk_K T n p = 1 ∨ tk_K T n p = 3) → ms = ls ∧ ∀ i, G 5 i = F 5 i) ∧
  (tk_K T n p = 1 ∨ tk_K T n p = 3 → ∃ s, G 0 68 = 18446744073709551616 + s ∧ s < ms.length ∧ ms.getD s [] = tk_B T n p ∧ ms = st_with ls (tk_B T n p) ∧ ∀ i, G 5 i = if i = s then 1 else F 5 i) ∧
  rs_ok G ms ∧ (∀ c i, (c < 2 ∨ 8 < c) → (c = 0 → i ≠ 8 ∧ i ≠ 14 ∧ i ≠ 20 ∧ i ≠ 67 ∧ i ≠ 68 ∧ i ≠ 69) → G c i = F c i)
theorem st_with_len (ls : List (List Nat)) (b : List Nat) : ls.length ≤ (st_with ls b).length ∧ (st_with ls b).length ≤ ls.length + 1 := by
  unfold st_with
  cases st_ix ls b with
  | none =>
    rw [List.length_append]
    exact ⟨Nat.le_add_right _ _, Nat.le_refl _⟩
  | some s => exact ⟨Nat.le_refl _, Nat.le_succ _⟩
theorem st_with_off (ls : List (List Nat)) (b : List Nat) : st_off (st_with ls b) (st_with ls b).length ≤ st_off ls ls.length + b.length := by
  unfold st_with
  cases st_ix ls b with
  | none =>
    have hlen : (ls ++ [b]).length = ls.length + 1 := by rw [List.length_append]; rfl
    show st_off (ls ++ [b]) (ls ++ [b]).length ≤ _
    rw [hlen]
    show st_off (ls ++ [b]) ls.length + ((ls ++ [b]).getD ls.length []).length ≤ _
    rw [st_off_app ls b (Nat.le_refl _), st_getD_last]
    exact Nat.le_refl _
  | some s => exact Nat.le_add_right _ _
theorem st_with_get (ls : List (List Nat)) (b : List Nat) {s : Nat} (h : s < ls.length) : (st_with ls b).getD s [] = ls.getD s [] := by
  unfold st_with
  cases st_ix ls b with
  | none => exact st_getD_app ls b h
  | some s => rfl
/-- a name's or a string's number and memory -/
theorem tm_str {F G : wq_F} {ls : List (List Nat)} {b : List Nat} (hR : rs_ok F ls) (h8 : ∀ k, k < b.length → ev_b8 (b.getD k 0) = b.getD k 0) (hm : ls.length < 3000) (hG : ∀ c i, (c < 2 ∨ 8 < c ∨ c = 5) → (c = 0 → i ≠ 8 ∧ i ≠ 14 ∧ i ≠ 20 ∧ i ≠ 67 ∧ i ≠ 68 ∧ i ≠ 69) → G c i = F c i) (hGR : rs_ok G ls) :
    ∃ s, (rs_res (bfw G b) 1 (rh b) (st_ix ls b)).1 = s ∧ s < (st_with ls b).length ∧ s < 2147483648 ∧ (st_with ls b).getD s [] = b ∧ rs_ok (rs_res (bfw G b) 1 (rh b) (st_ix ls b)).2 (st_with ls b) ∧ (∀ i, (rs_res (bfw G b) 1 (rh b) (st_ix ls b)).2 5 i = if i = s then 1 else F 5 i) ∧
      (∀ c i, (c < 2 ∨ 8 < c) → (c = 0 → i ≠ 8 ∧ i ≠ 14 ∧ i ≠ 20) → (rs_res (bfw G b) 1 (rh b) (st_ix ls b)).2 c i = G c i) := by
  have h := rs_res_ok (sort := 1) (rs_ok_bfw hGR b) (bfw_is G b) h8 (bfw_len G b)
  have hl := st_with_len ls b
  refine ⟨_, rfl, h.2.1, by have := h.2.1; omega, h.2.2, h.1, fun i => ?_, fun c i hc hi => ?_⟩
  · rw [rs_res_5, bfw_c (by decide) (by omega), hG 5 i (Or.inr (Or.inr rfl)) (by omega)]
  · rw [rs_res_c (by omega) (fun z => ⟨(hi z).1, (hi z).2.1⟩), bfw_c (by omega) (fun z => (hi z).2.2)]
theorem tm_fr3 {F : wq_F} {a b c v w x : Nat} (ha : a = 67 ∨ a = 68 ∨ a = 69) (hb : b = 67 ∨ b = 68 ∨ b = 69) (hc : c = 67 ∨ c = 68 ∨ c = 69) : (∀ d i, (d = 0 → i ≠ 8 ∧ i ≠ 14 ∧ i ≠ 20 ∧ i ≠ 67 ∧ i ≠ 68 ∧ i ≠ 69) → wq_up (wq_up (wq_up F 0 a v) 0 b w) 0 c x d i = F d i) := by
  intro d i h
  rw [wq_up_ne (fun z => by have := h z.1; omega), wq_up_ne (fun z => by have := h z.1; omega), wq_up_ne (fun z => by have := h z.1; omega)]
theorem tm_fr2 {F : wq_F} {a b v w : Nat} (ha : a = 67 ∨ a = 68 ∨ a = 69) (hb : b = 67 ∨ b = 68 ∨ b = 69) : (∀ d i, (d = 0 → i ≠ 8 ∧ i ≠ 14 ∧ i ≠ 20 ∧ i ≠ 67 ∧ i ≠ 68 ∧ i ≠ 69) → wq_up (wq_up F 0 a v) 0 b w d i = F d i) := by
  intro d i h
  rw [wq_up_ne (fun z => by have := h z.1; omega), wq_up_ne (fun z => by have := h z.1; omega)]
theorem tm_R2 {F : wq_F} {ls : List (List Nat)} {a b v w : Nat} (hR : rs_ok F ls) (ha : a = 67 ∨ a = 68 ∨ a = 69) (hb : b = 67 ∨ b = 68 ∨ b = 69) : rs_ok (wq_up (wq_up F 0 a v) 0 b w) ls := rs_ok_f (rs_ok_f hR (by omega) (by omega)) (by omega) (by omega)
theorem tk_K_in {T : Nat → Nat} {n p : Nat} (hp : p < n) : tk_K T n p = (if ¬ lx_letter (T p) = 0 then (if 0 < lx_word (tk_nb T n p) then 4 else if 30 < tk_e T n p - p then 7 else 1)
  else if ¬ lx_digit (T p) = 0 then (lx_num T n p).1
  else if T p = 34 ∨ T p = 39 then (if (lx_str T n p).2.2 = 1 ∧ lx_at T n (lx_str T n p).2.1 = T p ∧ (lx_str T n p).1.length ≤ 200 then 3 else 7)
  else if (lx_sgn T n p).1 = 0 then 7 else 5) := if_neg (fun z => z hp)
/-- a letter -/
theorem tm_name {F : wq_F} {ls : List (List Nat)} {n p : Nat} (hp : p < n) (hC : ∀ i, i < n → F 1 i < 256) (hR : rs_ok F ls) (hm : ls.length < 3000) (ha : ¬ lx_letter (F 1 p) = 0) : ∃ ms, tm_tok (F 1) n p F ls (nm_res F ls p (tk_e (F 1) n p)) ms := by
  have hK := tk_K_in (T := F 1) (n := n) hp
  rw [if_pos ha] at hK
  have hE : tk_E (F 1) n p = tk_e (F 1) n p := if_pos ha
  have hV : tk_V (F 1) n p = lx_word (tk_nb (F 1) n p) := if_pos ha
  have hB : tk_B (F 1) n p = tk_nb (F 1) n p := if_pos ha
  have hw := lx_word_lt (tk_nb (F 1) n p)
  unfold nm_res
  by_cases w : 0 < lx_word (tk_nb (F 1) n p)
  · rw [if_pos w] at hK
    rw [if_pos w]
    refine ⟨ls, ?_, fun _ => ?_, fun _ => ?_, fun _ => ⟨rfl, fun i => ?_⟩, fun z => ?_, rs_ok_f (tm_R2 hR (by decide) (by decide)) (by decide) (by decide), fun c i _ h => tm_fr3 (by decide) (by decide) (by decide) c i h⟩
    · rw [hK, wq_up_at (by decide), wq_up_same]
    · rw [hE, wq_up_at (by decide), wq_up_at (by decide), wq_up_same]
    · rw [hV, wq_up_same, nx_i2l (show lx_word (tk_nb (F 1) n p) < 2147483648 by omega)]
    · rw [wq_up_cell (by decide), wq_up_cell (by decide), wq_up_cell (by decide)]
    · rw [hK] at z
      omega
  · rw [if_neg w] at hK
    rw [if_neg w]
    by_cases l : 30 < tk_e (F 1) n p - p
    · rw [if_pos l] at hK
      rw [if_pos l]
      refine ⟨ls, ?_, fun z => absurd hK z.2, fun z => ?_, fun _ => ⟨rfl, fun i => ?_⟩, fun z => ?_, tm_R2 hR (by decide) (by decide), fun c i _ h => tm_fr2 (by decide) (by decide) c i h⟩
      · rw [hK, wq_up_same]
      · rw [hK] at z; omega
      · rw [wq_up_cell (by decide), wq_up_cell (by decide)]
      · rw [hK] at z; omega
    · rw [if_neg l] at hK
      rw [if_neg l]
      have h8 : ∀ k, k < (tk_nb (F 1) n p).length → ev_b8 ((tk_nb (F 1) n p).getD k 0) = (tk_nb (F 1) n p).getD k 0 := fun k hk => by
        rw [lx_bytes_len] at hk
        rw [lx_bytes_get hk]
        have h1 := lx_nend_le (T := F 1) (n := n) (n - p) p (by omega)
        have h2 := lx_nend_in (T := F 1) (n := n) (n - p) p (p + k) (by omega) (show p + k < tk_e (F 1) n p by omega)
        rw [lx_at_of (show p + k < n by have : tk_e (F 1) n p ≤ n := h1; omega)] at h2
        have h3 := lx_ld_1 h2
        exact (lx_b8_c (by omega) h3.2).mpr rfl
      obtain ⟨s, s1, s2, s3, s4, s5, s6, s7⟩ := tm_str (G := wq_up (wq_up F 0 69 (tk_e (F 1) n p)) 0 67 1) hR h8 hm (fun c i _ h => tm_fr2 (by decide) (by decide) c i h) (tm_R2 hR (by decide) (by decide))
      rw [s1]
      refine ⟨st_with ls (tk_nb (F 1) n p), ?_, fun _ => ?_, fun z => ?_, fun z => absurd (Or.inl hK) z, fun _ => ⟨s, ?_, s2, by rw [hB]; exact s4, by rw [hB], fun i => ?_⟩, rs_ok_f s5 (by decide) (by decide), fun c i hc h => ?_⟩
      · rw [hK, wq_up_at (by decide), s7 0 67 (by decide) (by decide), wq_up_same]
      · rw [hE, wq_up_at (by decide), s7 0 69 (by decide) (by decide), wq_up_at (by decide), wq_up_same]
      · rw [hK] at z; omega
      · rw [wq_up_same, nx_i2l s3]
      · rw [wq_up_cell (by decide)]
        exact s6 i
      · rw [wq_up_ne (fun z => by have := h z.1; omega), s7 c i hc (fun z => by have := h z; omega)]
        exact tm_fr2 (by decide) (by decide) c i h
/-- a digit -/
theorem tm_num {F : wq_F} {ls : List (List Nat)} {n p : Nat} (hp : p < n) (hR : rs_ok F ls) (ha : lx_letter (F 1 p) = 0) (hb : ¬ lx_digit (F 1 p) = 0) : tm_tok (F 1) n p F ls (wq_up (wq_up (wq_up F 0 67 (lx_num (F 1) n p).1) 0 68 (lx_num (F 1) n p).2.1) 0 69 (lx_num (F 1) n p).2.2) ls := by
  have hK := tk_K_in (T := F 1) (n := n) hp
  rw [if_neg (fun z => z ha), if_pos hb] at hK
  have hE : tk_E (F 1) n p = (lx_num (F 1) n p).2.2 := (if_neg (fun z => z ha)).trans (if_pos hb)
  have hV : tk_V (F 1) n p = (lx_num (F 1) n p).2.1 - 18446744073709551616 := (if_neg (fun z => z ha)).trans (if_pos hb)
  have hn := lx_num_b hp hb
  refine ⟨?_, fun _ => ?_, fun _ => ?_, fun _ => ⟨rfl, fun i => ?_⟩, fun z => ?_, rs_ok_f (tm_R2 hR (by decide) (by decide)) (by decide) (by decide), fun c i _ h => tm_fr3 (by decide) (by decide) (by decide) c i h⟩
  · rw [hK, wq_up_at (by decide), wq_up_at (by decide), wq_up_same]
  · rw [hE, wq_up_same]
  · rw [hV, wq_up_at (by decide), wq_up_same]
    have := ev_isL_s hn.2.1
    omega
  · rw [wq_up_cell (by decide), wq_up_cell (by decide), wq_up_cell (by decide)]
  · rw [hK] at z
    omega
/-- a quote: a string, or none -/
theorem tm_quote {F : wq_F} {ls : List (List Nat)} {n p : Nat} (hp : p < n) (hR : rs_ok F ls) (hm : ls.length < 3000) (ha : lx_letter (F 1 p) = 0) (hb : lx_digit (F 1 p) = 0) (hc : F 1 p = 34 ∨ F 1 p = 39) :
    (lx_qg (F 1) n (F 1 p) [] (lx_str (F 1) n p) → ∃ ms, tm_tok (F 1) n p F ls (qm_fin (wq_up F 0 67 7) ls (lx_str (F 1) n p).1 (lx_str (F 1) n p).2.1) ms) ∧
    (¬ lx_qg (F 1) n (F 1 p) [] (lx_str (F 1) n p) → ∀ b', tm_tok (F 1) n p F ls (bfw (wq_up F 0 67 7) b') ls) := by
  have hK := tk_K_in (T := F 1) (n := n) hp
  rw [if_neg (fun z => z ha), if_neg (fun z => z hb), if_pos hc] at hK
  have hE : tk_E (F 1) n p = (lx_str (F 1) n p).2.1 + 1 := (if_neg (fun z => z ha)).trans ((if_neg (fun z => z hb)).trans (if_pos hc))
  have hB : tk_B (F 1) n p = (lx_str (F 1) n p).1 := if_neg (fun z => z ha)
  constructor
  · intro g
    have g3 : 0 + (lx_str (F 1) n p).1.length ≤ 200 := g.2.2
    rw [if_pos ⟨g.1, g.2.1, by omega⟩] at hK
    have h8 := (lx_qs_b (T := F 1) (n := n) (q := F 1 p) n (p + 1)).2.2.2
    have hup : wq_up (wq_up F 0 67 7) 0 67 3 = wq_up F 0 67 3 := wq_upup F 0 67 7 3
    unfold qm_fin
    rw [hup]
    obtain ⟨s, s1, s2, s3, s4, s5, s6, s7⟩ := tm_str (b := (lx_str (F 1) n p).1) (G := wq_up F 0 67 3) hR h8 hm (fun c i _ h => wq_up_ne (fun z => by have := h z.1; omega)) (rs_ok_f hR (by decide) (by decide))
    rw [s1]
    refine ⟨st_with ls (lx_str (F 1) n p).1, ?_, fun _ => ?_, fun z => ?_, fun z => absurd (Or.inr hK) z, fun _ => ⟨s, ?_, s2, by rw [hB]; exact s4, by rw [hB], fun i => ?_⟩, rs_ok_f (rs_ok_f s5 (by decide) (by decide)) (by decide) (by decide), fun c i hc h => ?_⟩
    · rw [hK, wq_up_at (by decide), wq_up_at (by decide), s7 0 67 (by decide) (by decide), wq_up_same]
    · rw [hE, wq_up_same]
    · rw [hK] at z; omega
    · rw [wq_up_at (by decide), wq_up_same, nx_i2l s3]
    · rw [wq_up_cell (by decide), wq_up_cell (by decide)]
      exact s6 i
    · rw [wq_up_ne (fun z => by have := h z.1; omega), wq_up_ne (fun z => by have := h z.1; omega), s7 c i hc (fun z => by have := h z; omega)]
      exact wq_up_ne (fun z => by have := h z.1; omega)
  · intro g b'
    have g' : ¬ ((lx_str (F 1) n p).2.2 = 1 ∧ lx_at (F 1) n (lx_str (F 1) n p).2.1 = F 1 p ∧ (lx_str (F 1) n p).1.length ≤ 200) := fun z => g ⟨z.1, z.2.1, by show 0 + (lx_str (F 1) n p).1.length ≤ 200; omega⟩
    rw [if_neg g'] at hK
    refine ⟨?_, fun z => absurd hK z.2, fun z => ?_, fun _ => ⟨rfl, fun i => ?_⟩, fun z => ?_, rs_ok_bfw (rs_ok_f hR (by decide) (by decide)) b', fun c i hc h => ?_⟩
    · rw [hK, bfw_c (by decide) (by decide), wq_up_same]
    · rw [hK] at z; omega
    · rw [bfw_c (by decide) (by omega), wq_up_cell (by decide)]
    · rw [hK] at z; omega
    · rw [bfw_c (by omega) (fun z => by have := h z; omega)]
      exact wq_up_ne (fun z => by have := h z.1; omega)
/-- any other byte -/
theorem tm_sign {F : wq_F} {ls : List (List Nat)} {n p : Nat} (hp : p < n) (hR : rs_ok F ls) (hC : ∀ i, i < n → F 1 i < 256) (ha : lx_letter (F 1 p) = 0) (hb : lx_digit (F 1 p) = 0) (hc : ¬ (F 1 p = 34 ∨ F 1 p = 39)) : tm_tok (F 1) n p F ls (sg_res F n p) ls := by
  have hK := tk_K_in (T := F 1) (n := n) hp
  rw [if_neg (fun z => z ha), if_neg (fun z => z hb), if_neg hc] at hK
  have hE : tk_E (F 1) n p = (lx_sgn (F 1) n p).2 := (if_neg (fun z => z ha)).trans ((if_neg (fun z => z hb)).trans (if_neg hc))
  have hV : tk_V (F 1) n p = (lx_sgn (F 1) n p).1 := (if_neg (fun z => z ha)).trans (if_neg (fun z => z hb))
  have hlt : (lx_sgn (F 1) n p).1 < 2147483648 := by
    unfold lx_sgn
    have h4 := lx_p0_lt400 (lx_at (F 1) n p) (lx_at (F 1) n (p + 1))
    by_cases a : lx_at (F 1) n p = 46 ∧ lx_at (F 1) n (p + 1) = 46 ∧ lx_at (F 1) n (p + 2) = 46
    · rw [if_pos a]
      show 301 < 2147483648
      decide
    · rw [if_neg a]
      by_cases b : 0 < lx_p0 (lx_at (F 1) n p) (lx_at (F 1) n (p + 1))
      · rw [if_pos b]
        show lx_p0 (lx_at (F 1) n p) (lx_at (F 1) n (p + 1)) < 2147483648
        omega
      · rw [if_neg b]
        show (if lx_ix (lx_at (F 1) n p) = 4294967295 then 0 else lx_at (F 1) n p) < 2147483648
        rw [lx_at_of hp]
        have := hC p hp
        exact wd_ite (by decide) (by omega)
  unfold sg_res
  by_cases q : (lx_sgn (F 1) n p).1 = 0
  · rw [if_pos q] at hK
    rw [if_pos q, if_pos q]
    refine ⟨?_, fun z => absurd hK z.2, fun z => ?_, fun _ => ⟨rfl, fun i => ?_⟩, fun z => ?_, rs_ok_f (tm_R2 hR (by decide) (by decide)) (by decide) (by decide), fun c i _ h => tm_fr3 (by decide) (by decide) (by decide) c i h⟩
    · rw [hK, wq_up_at (by decide), wq_up_at (by decide), wq_up_same]
    · rw [hK] at z; omega
    · rw [wq_up_cell (by decide), wq_up_cell (by decide), wq_up_cell (by decide)]
    · rw [hK] at z; omega
  · rw [if_neg q] at hK
    rw [if_neg q, if_neg q]
    refine ⟨?_, fun _ => ?_, fun _ => ?_, fun _ => ⟨rfl, fun i => ?_⟩, fun z => ?_, rs_ok_f (tm_R2 hR (by decide) (by decide)) (by decide) (by decide), fun c i _ h => tm_fr3 (by decide) (by decide) (by decide) c i h⟩
    · rw [hK, wq_up_at (by decide), wq_up_at (by decide), wq_up_same]
    · rw [hE, wq_up_same]
    · rw [hV, wq_up_at (by decide), wq_up_same, nx_i2l hlt]
    · rw [wq_up_cell (by decide), wq_up_cell (by decide), wq_up_cell (by decide)]
    · rw [hK] at z; omega
/-- the end -/
theorem tm_end {F : wq_F} {ls : List (List Nat)} {n p : Nat} (hp : ¬ p < n) (hR : rs_ok F ls) : tm_tok (F 1) n p F ls (wq_up F 0 67 6) ls := by
  have hK : tk_K (F 1) n p = 6 := if_pos hp
  refine ⟨?_, fun z => absurd hK z.1, fun z => ?_, fun _ => ⟨rfl, fun i => wq_up_cell (by decide)⟩, fun z => ?_, rs_ok_f hR (by decide) (by decide), fun c i _ h => wq_up_ne (fun z => by have := h z.1; omega)⟩
  · rw [hK, wq_up_same]
  · rw [hK] at z; omega
  · rw [hK] at z; omega
/-- any token -/
theorem dkL_26_b {nn : Nat} {r : wq_F → Nat → Nat → Option (Nat × wq_F)} {F : wq_F} {ls : List (List Nat)} {n p : Nat} (hF : F 0 2 = n) (hn6 : n ≤ 6000) (hp : p ≤ n) (hC : ∀ i, i < n → F 1 i < 256) (hR : rs_ok F ls) (hn : 6002 < nn) (hn2 : ls.length < nn) (hm : ls.length < 3000) (hpo : st_off ls ls.length + 200 ≤ 40000) : ∃ G ms, dk_26_13b nn r F p 1 = dk_26_91 nn r G p ∧ tm_tok (F 1) n p F ls G ms := by
  unfold dk_26_13b
  rw [if_neg (by decide), dkS_28 (by omega) (by omega), od_bS, hF]
  dsimp only
  by_cases h : p < n
  · have hc := hC p h
    rw [lx_at_of h, if_neg (by omega)]
    show ∃ G ms, (some (lx_letter (F 1 p), F)).bind _ = _ ∧ _
    rw [od_bS]
    dsimp only
    by_cases a : lx_letter (F 1 p) = 0
    · rw [if_pos a]
      show ∃ G ms, (some (lx_digit (F 1 p), F)).bind _ = _ ∧ _
      rw [od_bS]
      dsimp only
      by_cases b : lx_digit (F 1 p) = 0
      · rw [if_pos b]
        by_cases c : F 1 p = 34 ∨ F 1 p = 39
        · have hs := dkS_205 (nn := nn) hF hn6 h hC hR hn hn2 hm hpo
          have ht := tm_quote h hR hm a b c
          have both : ∀ X : Prop, (∀ G : wq_F, dk_205 nn F p = some (0, G) → (∃ ms, tm_tok (F 1) n p F ls G ms) → X) → X := fun X hX => by
            by_cases g : lx_qg (F 1) n (F 1 p) [] (lx_str (F 1) n p)
            · exact hX _ (hs.1 g) (ht.1 g)
            · obtain ⟨b', e⟩ := hs.2 g
              exact hX _ e ⟨ls, ht.2 g b'⟩
          refine both _ (fun G e ⟨ms, t⟩ => ⟨G, ms, ?_, t⟩)
          by_cases c1 : F 1 p = 34
          · rw [if_pos c1, e, od_bS]
          · rw [if_neg c1, if_pos (by omega), e, od_bS]
        · rw [if_neg (by omega), if_neg (by omega), dkS_208 hF hn6 h, od_bS]
          exact ⟨_, _, rfl, tm_sign h hR hC a b c⟩
      · rw [if_neg b]
        have hnb := lx_num_b h b
        have hd : dk_203 F p = some (0, wq_up (wq_up (wq_up F 0 67 (lx_num (F 1) n p).1) 0 68 (lx_num (F 1) n p).2.1) 0 69 (lx_num (F 1) n p).2.2) := by
          unfold dk_203
          rw [hF, od_g1 ⟨hn6, hC, by omega, by omega, hnb.2.1, by omega⟩]
        rw [hd, od_bS]
        exact ⟨_, _, rfl, tm_num h hR a b⟩
    · rw [if_neg a]
      have hd : dk_202 nn F p = some (0, nm_res F ls p (tk_e (F 1) n p)) := by
        unfold dk_202
        exact dkS_202 hn6 hF (by omega) hC hR (by omega) hn2 hm (by omega) nn p (Nat.le_refl _) (by omega) (by omega) (fun j h1 h2 => absurd h1 (by omega))
      rw [hd, od_bS]
      obtain ⟨ms, t⟩ := tm_name h hC hR hm a
      exact ⟨_, ms, rfl, t⟩
  · have e : lx_at (F 1) n p = 4294967295 := if_neg h
    rw [e, if_pos (by decide), od_upS]
    exact ⟨_, _, rfl, tm_end h hR⟩
