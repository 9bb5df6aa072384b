/-! ===== 99k: the state of the reference's parser (wip/whole2/99k.txt) ===== -/
theorem pm_at_x {T : Nat → Nat} {n M i : Nat} {F H : wq_F} {ls : List (List Nat)} (h : pm_at T n M i F ls) (hc : ∀ c j, 1 ≤ c → c ≤ 11 → H c j = F c j) (h0 : ∀ j, j = 2 ∨ j = 4 ∨ j = 8 ∨ j = 14 ∨ j = 25 → H 0 j = F 0 j) : pm_at T n M i H ls := by
  obtain ⟨h1, h2, h3, h4, h5, h6, h7⟩ := h
  have e : ∀ c, 1 ≤ c → c ≤ 11 → H c = F c := fun c a b => funext fun j => hc c j a b
  refine ⟨(h0 4 (by decide)).trans h1, (h0 25 (by decide)).trans h2, h3, (e 1 (by decide) (by decide)).trans h4, (h0 2 (by decide)).trans h5, fun j hj => ?_, rs_ok_up h7 ⟨h0 14 (by decide), h0 8 (by decide)⟩ (fun c hc => e c (by omega) (by omega))⟩
  rw [e 9 (by decide) (by decide), e 10 (by decide) (by decide), e 11 (by decide) (by decide), e 5 (by decide) (by decide)]
  exact h6 j hj
/-- its waits, its loops, the places noted: the latest first -/
def ry_wa (F : wq_F) : List (Nat × Nat × Nat × Nat) → Prop
  | [] => True
  | e :: W => (F 25 W.length = e.1 ∧ F 26 W.length = e.2.1 ∧ F 27 W.length = e.2.2.1 ∧ F 28 W.length = e.2.2.2) ∧ ry_wa F W
def ry_lo (F : wq_F) : List (Nat × Nat) → Prop
  | [] => True
  | e :: L => (F 33 L.length = e.1 ∧ F 34 L.length = e.2) ∧ ry_lo F L
def ry_pl (F : wq_F) : List (Nat × Nat × Nat) → Prop
  | [] => True
  | e :: L => (F 35 L.length = e.1 ∧ F 36 L.length = e.2.1 ∧ F 37 L.length = e.2.2) ∧ ry_pl F L
theorem ry_wa_x {F H : wq_F} : ∀ {W : List (Nat × Nat × Nat × Nat)}, ry_wa F W → (∀ c j, 25 ≤ c → c ≤ 28 → j < W.length → H c j = F c j) → ry_wa H W
  | [], _, _ => trivial
  | e :: W, h, g => ⟨⟨(g 25 _ (by decide) (by decide) (Nat.lt_succ_self _)).trans h.1.1, (g 26 _ (by decide) (by decide) (Nat.lt_succ_self _)).trans h.1.2.1, (g 27 _ (by decide) (by decide) (Nat.lt_succ_self _)).trans h.1.2.2.1, (g 28 _ (by decide) (by decide) (Nat.lt_succ_self _)).trans h.1.2.2.2⟩, ry_wa_x h.2 (fun c j a b d => g c j a b (Nat.lt_succ_of_lt d))⟩
theorem ry_lo_x {F H : wq_F} : ∀ {L : List (Nat × Nat)}, ry_lo F L → (∀ c j, 33 ≤ c → c ≤ 34 → j < L.length → H c j = F c j) → ry_lo H L
  | [], _, _ => trivial
  | e :: L, h, g => ⟨⟨(g 33 _ (by decide) (by decide) (Nat.lt_succ_self _)).trans h.1.1, (g 34 _ (by decide) (by decide) (Nat.lt_succ_self _)).trans h.1.2⟩, ry_lo_x h.2 (fun c j a b d => g c j a b (Nat.lt_succ_of_lt d))⟩
theorem ry_pl_x {F H : wq_F} : ∀ {L : List (Nat × Nat × Nat)}, ry_pl F L → (∀ c j, 35 ≤ c → c ≤ 37 → j < L.length → H c j = F c j) → ry_pl H L
  | [], _, _ => trivial
  | e :: L, h, g => ⟨⟨(g 35 _ (by decide) (by decide) (Nat.lt_succ_self _)).trans h.1.1, (g 36 _ (by decide) (by decide) (Nat.lt_succ_self _)).trans h.1.2.1, (g 37 _ (by decide) (by decide) (Nat.lt_succ_self _)).trans h.1.2.2⟩, ry_pl_x h.2 (fun c j a b d => g c j a b (Nat.lt_succ_of_lt d))⟩
theorem ry_pl_drop {F : wq_F} : ∀ {A L : List (Nat × Nat × Nat)}, ry_pl F (A ++ L) → ry_pl F L
  | [], _, h => h
  | _ :: A, _, h => ry_pl_drop (A := A) h.2
/-- token i; t: the nest, w words, nw wholes, np functions; its waits, loops, places -/
def ry (T : Nat → Nat) (n M i : Nat) (ls : List (List Nat)) (t w nw np : Nat) (W : List (Nat × Nat × Nat × Nat)) (L : List (Nat × Nat)) (P : List (Nat × Nat × Nat)) (F : wq_F) : Prop :=
  pm_at T n M i F ls ∧ (F 0 47 = t ∧ F 0 41 = w ∧ F 0 40 = nw ∧ F 0 34 = np) ∧ (F 0 46 = W.length ∧ ry_wa F W) ∧ (F 0 56 = L.length ∧ ry_lo F L) ∧ (F 0 60 = P.length ∧ ry_pl F P)
/-- what it doesn't speak of -/
def ry_n (c j : Nat) : Prop := (12 ≤ c ∧ c ≤ 24) ∨ (29 ≤ c ∧ c ≤ 32) ∨ (c = 0 ∧ (j = 5 ∨ j = 50 ∨ j = 53 ∨ (61 ≤ j ∧ j ≤ 64)))
theorem ry_mk {T : Nat → Nat} {n M i t w nw np : Nat} {ls : List (List Nat)} {W : List (Nat × Nat × Nat × Nat)} {L : List (Nat × Nat)} {P : List (Nat × Nat × Nat)} {F H : wq_F} (h : ry T n M i ls t w nw np W L P F) (hx : ∀ c j, ¬ ry_n c j → ¬ (c = 0 ∧ (j = 34 ∨ j = 40 ∨ j = 41 ∨ j = 47)) → H c j = F c j) : ry T n M i ls (H 0 47) (H 0 41) (H 0 40) (H 0 34) W L P H := by
  obtain ⟨h1, h2, ⟨h3, h4⟩, ⟨h5, h6⟩, ⟨h7, h8⟩⟩ := h
  refine ⟨pm_at_x h1 (fun c j a b => hx c j (by unfold ry_n; omega) (by omega)) (fun j hj => hx 0 j (by unfold ry_n; omega) (by omega)), ⟨rfl, rfl, rfl, rfl⟩, ⟨?_, ?_⟩, ⟨?_, ?_⟩, ⟨?_, ?_⟩⟩
  · exact (hx 0 46 (by unfold ry_n; omega) (by omega)).trans h3
  · exact ry_wa_x h4 (fun c j a b _ => hx c j (by unfold ry_n; omega) (by omega))
  · exact (hx 0 56 (by unfold ry_n; omega) (by omega)).trans h5
  · exact ry_lo_x h6 (fun c j a b _ => hx c j (by unfold ry_n; omega) (by omega))
  · exact (hx 0 60 (by unfold ry_n; omega) (by omega)).trans h7
  · exact ry_pl_x h8 (fun c j a b _ => hx c j (by unfold ry_n; omega) (by omega))
theorem ry_x {T : Nat → Nat} {n M i t w nw np : Nat} {ls : List (List Nat)} {W : List (Nat × Nat × Nat × Nat)} {L : List (Nat × Nat)} {P : List (Nat × Nat × Nat)} {F H : wq_F} (h : ry T n M i ls t w nw np W L P F) (hx : ∀ c j, ¬ ry_n c j → H c j = F c j) : ry T n M i ls t w nw np W L P H := by
  have g := ry_mk h (H := H) (fun c j a _ => hx c j a)
  have e : ∀ j, j = 34 ∨ j = 40 ∨ j = 41 ∨ j = 47 → H 0 j = F 0 j := fun j hj => hx 0 j (by unfold ry_n; omega)
  rw [e 34 (by decide), e 40 (by decide), e 41 (by decide), e 47 (by decide), h.2.1.1, h.2.1.2.1, h.2.1.2.2.1, h.2.1.2.2.2] at g
  exact g
theorem ry_up {T : Nat → Nat} {n M i t w nw np c j v : Nat} {ls : List (List Nat)} {W : List (Nat × Nat × Nat × Nat)} {L : List (Nat × Nat)} {P : List (Nat × Nat × Nat)} {F : wq_F} (h : ry T n M i ls t w nw np W L P F) (hn : ry_n c j) : ry T n M i ls t w nw np W L P (wq_up F c j v) := ry_x h (fun d k hd => wq_up_ne (fun z => hd (by rw [z.1, z.2]; exact hn)))
theorem ry_jl {T : Nat → Nat} {n M i t w nw np v : Nat} {ls : List (List Nat)} {W : List (Nat × Nat × Nat × Nat)} {L : List (Nat × Nat)} {P : List (Nat × Nat × Nat)} {F : wq_F} {J : List Nat} (h : ry T n M i ls t w nw np W L P F) : ry T n M i ls t w nw np W L P (jl_up F 21 J v) := ry_x h (fun d k hd => jl_ne (fun z => hd (by unfold ry_n; omega)))
theorem ry_em {T : Nat → Nat} {n M i t w nw np op a b ln : Nat} {ls : List (List Nat)} {W : List (Nat × Nat × Nat × Nat)} {L : List (Nat × Nat)} {P : List (Nat × Nat × Nat)} {F : wq_F} (h : ry T n M i ls t w nw np W L P F) : ry T n M i ls t (w + 1) nw np W L P (pm_em F op a b ln) := by
  have g := ry_mk h (H := pm_em F op a b ln) (fun c j h1 h2 => pm_em_ne (fun z => h1 (by unfold ry_n; omega)) (fun z => h2 (by omega)))
  rw [pm_em_at.2.2.2.2, pm_em_ne (show ¬ (20 ≤ 0 ∧ 0 ≤ 23 ∧ 47 = F 0 41) by omega) (by decide), pm_em_ne (show ¬ (20 ≤ 0 ∧ 0 ≤ 23 ∧ 40 = F 0 41) by omega) (by decide), pm_em_ne (show ¬ (20 ≤ 0 ∧ 0 ≤ 23 ∧ 34 = F 0 41) by omega) (by decide), h.2.1.1, h.2.1.2.1, h.2.1.2.2.1, h.2.1.2.2.2] at g
  exact g
theorem ry_la {T : Nat → Nat} {n M i t w nw np k x y z : Nat} {ls : List (List Nat)} {W : List (Nat × Nat × Nat × Nat)} {L : List (Nat × Nat)} {P : List (Nat × Nat × Nat)} {F : wq_F} (h : ry T n M i ls t w nw np W L P F) : ry T n M i ls t w nw np ((k, x, y, z) :: W) L P (pm_la F k x y z) := by
  obtain ⟨h1, ⟨h2, h2b, h2c, h2d⟩, ⟨h3, h4⟩, ⟨h5, h6⟩, ⟨h7, h8⟩⟩ := h
  have e : ∀ j, ¬ j = 46 → pm_la F k x y z 0 j = F 0 j := fun j hj => pm_la_ne (by omega) (by omega)
  have e2 : ∀ c j, ¬ (25 ≤ c ∧ c ≤ 28) → ¬ c = 0 → pm_la F k x y z c j = F c j := fun c j hc h0 => pm_la_ne (by omega) (by omega)
  have a := pm_la_at (F := F) (k := k) (x := x) (y := y) (z := z)
  rw [h3] at a
  refine ⟨pm_at_x h1 (fun c j a b => e2 c j (by omega) (by omega)) (fun j hj => e j (by omega)), ⟨(e 47 (by decide)).trans h2, (e 41 (by decide)).trans h2b, (e 40 (by decide)).trans h2c, (e 34 (by decide)).trans h2d⟩, ⟨a.2.2.2.2, ⟨a.1, a.2.1, a.2.2.1, a.2.2.2.1⟩, ry_wa_x h4 (fun c j a b d => pm_la_ne (by omega) (by omega))⟩, ⟨(e 56 (by decide)).trans h5, ry_lo_x h6 (fun c j a b _ => e2 c j (by omega) (by omega))⟩, ⟨(e 60 (by decide)).trans h7, ry_pl_x h8 (fun c j a b _ => e2 c j (by omega) (by omega))⟩⟩
theorem ry_pop {T : Nat → Nat} {n M i t w nw np : Nat} {ls : List (List Nat)} {e : Nat × Nat × Nat × Nat} {W : List (Nat × Nat × Nat × Nat)} {L : List (Nat × Nat)} {P : List (Nat × Nat × Nat)} {F : wq_F} (h : ry T n M i ls t w nw np (e :: W) L P F) : ry T n M i ls t w nw np W L P (wq_up F 0 46 W.length) := by
  obtain ⟨h1, ⟨h2, h2b, h2c, h2d⟩, ⟨h3, h4⟩, ⟨h5, h6⟩, ⟨h7, h8⟩⟩ := h
  have e : ∀ c j, ¬ (c = 0 ∧ j = 46) → wq_up F 0 46 W.length c j = F c j := fun c j hc => wq_up_ne hc
  exact ⟨pm_at_x h1 (fun c j a b => e c j (by omega)) (fun j hj => e 0 j (by omega)), ⟨(e 0 47 (by decide)).trans h2, (e 0 41 (by decide)).trans h2b, (e 0 40 (by decide)).trans h2c, (e 0 34 (by decide)).trans h2d⟩, ⟨wq_up_same _ _ _ _, ry_wa_x h4.2 (fun c j a b d => e c j (by omega))⟩, ⟨(e 0 56 (by decide)).trans h5, ry_lo_x h6 (fun c j a b _ => e c j (by omega))⟩, ⟨(e 0 60 (by decide)).trans h7, ry_pl_x h8 (fun c j a b _ => e c j (by omega))⟩⟩
theorem ry_nx {T : Nat → Nat} {n M i t w nw np : Nat} {ls : List (List Nat)} {W : List (Nat × Nat × Nat × Nat)} {L : List (Nat × Nat)} {P : List (Nat × Nat × Nat)} {F : wq_F} (h : ry T n M i ls t w nw np W L P F) (hi : i < M) : ry T n M (i + 1) ls t w nw np W L P (wq_up F 0 25 (i + 1)) := by
  obtain ⟨h1, ⟨h2, h2b, h2c, h2d⟩, ⟨h3, h4⟩, ⟨h5, h6⟩, ⟨h7, h8⟩⟩ := h
  have e : ∀ c j, ¬ (c = 0 ∧ j = 25) → wq_up F 0 25 (i + 1) c j = F c j := fun c j hc => wq_up_ne hc
  exact ⟨pm_next h1 hi, ⟨(e 0 47 (by decide)).trans h2, (e 0 41 (by decide)).trans h2b, (e 0 40 (by decide)).trans h2c, (e 0 34 (by decide)).trans h2d⟩, ⟨(e 0 46 (by decide)).trans h3, ry_wa_x h4 (fun c j a b d => e c j (by omega))⟩, ⟨(e 0 56 (by decide)).trans h5, ry_lo_x h6 (fun c j a b _ => e c j (by omega))⟩, ⟨(e 0 60 (by decide)).trans h7, ry_pl_x h8 (fun c j a b _ => e c j (by omega))⟩⟩
/-- the nest, the words' and the other numbers set -/
theorem ry_0 {T : Nat → Nat} {n M i t w nw np j v : Nat} {ls : List (List Nat)} {W : List (Nat × Nat × Nat × Nat)} {L : List (Nat × Nat)} {P : List (Nat × Nat × Nat)} {F : wq_F} (h : ry T n M i ls t w nw np W L P F) (hj : j = 34 ∨ j = 40 ∨ j = 47) : ry T n M i ls (if j = 47 then v else t) w (if j = 40 then v else nw) (if j = 34 then v else np) W L P (wq_up F 0 j v) := by
  have g := ry_mk h (H := wq_up F 0 j v) (fun c k h1 h2 => wq_up_ne (fun z => h2 (by omega)))
  rw [wq_up_ne (show ¬ (0 = 0 ∧ 41 = j) by omega), h.2.1.2.1] at g
  have e : ∀ k x, F 0 k = x → wq_up F 0 j v 0 k = if j = k then v else x := fun k x hx => by
    by_cases q : j = k
    · rw [q, wq_up_same, if_pos rfl]
    · rw [wq_up_ne (by omega), if_neg q]
      exact hx
  rw [e 47 t h.2.1.1, e 40 nw h.2.1.2.2.1, e 34 np h.2.1.2.2.2] at g
  exact g
/-- a loop more, the innermost loop's chain set, a loop less -/
theorem ry_lp {T : Nat → Nat} {n M i t w nw np a b : Nat} {ls : List (List Nat)} {W : List (Nat × Nat × Nat × Nat)} {L : List (Nat × Nat)} {P : List (Nat × Nat × Nat)} {F : wq_F} (h : ry T n M i ls t w nw np W L P F) : ry T n M i ls t w nw np W ((a, b) :: L) P (wq_up (wq_up (wq_up F 33 L.length a) 34 L.length b) 0 56 (L.length + 1)) := by
  obtain ⟨h1, ⟨h2, h2b, h2c, h2d⟩, ⟨h3, h4⟩, ⟨h5, h6⟩, ⟨h7, h8⟩⟩ := h
  have e : ∀ c j, ¬ (c = 0 ∧ j = 56) → ¬ (33 ≤ c ∧ c ≤ 34 ∧ j = L.length) → wq_up (wq_up (wq_up F 33 L.length a) 34 L.length b) 0 56 (L.length + 1) c j = F c j := fun c j hc hd => by rw [wq_up_ne hc, wq_up_ne (by omega), wq_up_ne (by omega)]
  exact ⟨pm_at_x h1 (fun c j a b => e c j (by omega) (by omega)) (fun j hj => e 0 j (by omega) (by omega)), ⟨(e 0 47 (by decide) (by omega)).trans h2, (e 0 41 (by decide) (by omega)).trans h2b, (e 0 40 (by decide) (by omega)).trans h2c, (e 0 34 (by decide) (by omega)).trans h2d⟩, ⟨(e 0 46 (by decide) (by omega)).trans h3, ry_wa_x h4 (fun c j a b d => e c j (by omega) (by omega))⟩, ⟨wq_up_same _ _ _ _, ⟨by rw [wq_up_cell (by decide), wq_up_cell (by decide), wq_up_same], by rw [wq_up_cell (by decide), wq_up_same]⟩, ry_lo_x h6 (fun c j a b d => e c j (by omega) (by omega))⟩, ⟨(e 0 60 (by decide) (by omega)).trans h7, ry_pl_x h8 (fun c j a b _ => e c j (by omega) (by omega))⟩⟩
theorem ry_lc {T : Nat → Nat} {n M i t w nw np a b v : Nat} {ls : List (List Nat)} {W : List (Nat × Nat × Nat × Nat)} {L : List (Nat × Nat)} {P : List (Nat × Nat × Nat)} {F : wq_F} (h : ry T n M i ls t w nw np W ((a, b) :: L) P F) : ry T n M i ls t w nw np W ((v, b) :: L) P (wq_up F 33 L.length v) := by
  obtain ⟨h1, ⟨h2, h2b, h2c, h2d⟩, ⟨h3, h4⟩, ⟨h5, h6⟩, ⟨h7, h8⟩⟩ := h
  have e : ∀ c j, ¬ (c = 33 ∧ j = L.length) → wq_up F 33 L.length v c j = F c j := fun c j hc => wq_up_ne hc
  exact ⟨pm_at_x h1 (fun c j a b => e c j (by omega)) (fun j hj => e 0 j (by omega)), ⟨(e 0 47 (by omega)).trans h2, (e 0 41 (by omega)).trans h2b, (e 0 40 (by omega)).trans h2c, (e 0 34 (by omega)).trans h2d⟩, ⟨(e 0 46 (by omega)).trans h3, ry_wa_x h4 (fun c j a b d => e c j (by omega))⟩, ⟨(e 0 56 (by omega)).trans h5, ⟨wq_up_same _ _ _ _, (e 34 _ (by omega)).trans h6.1.2⟩, ry_lo_x h6.2 (fun c j a b d => e c j (by omega))⟩, ⟨(e 0 60 (by omega)).trans h7, ry_pl_x h8 (fun c j a b _ => e c j (by omega))⟩⟩
theorem ry_ld {T : Nat → Nat} {n M i t w nw np : Nat} {e : Nat × Nat} {ls : List (List Nat)} {W : List (Nat × Nat × Nat × Nat)} {L : List (Nat × Nat)} {P : List (Nat × Nat × Nat)} {F : wq_F} (h : ry T n M i ls t w nw np W (e :: L) P F) : ry T n M i ls t w nw np W L P (wq_up F 0 56 L.length) := by
  obtain ⟨h1, ⟨h2, h2b, h2c, h2d⟩, ⟨h3, h4⟩, ⟨h5, h6⟩, ⟨h7, h8⟩⟩ := h
  have e : ∀ c j, ¬ (c = 0 ∧ j = 56) → wq_up F 0 56 L.length c j = F c j := fun c j hc => wq_up_ne hc
  exact ⟨pm_at_x h1 (fun c j a b => e c j (by omega)) (fun j hj => e 0 j (by omega)), ⟨(e 0 47 (by omega)).trans h2, (e 0 41 (by omega)).trans h2b, (e 0 40 (by omega)).trans h2c, (e 0 34 (by omega)).trans h2d⟩, ⟨(e 0 46 (by omega)).trans h3, ry_wa_x h4 (fun c j a b d => e c j (by omega))⟩, ⟨wq_up_same _ _ _ _, ry_lo_x h6.2 (fun c j a b d => e c j (by omega))⟩, ⟨(e 0 60 (by omega)).trans h7, ry_pl_x h8 (fun c j a b _ => e c j (by omega))⟩⟩
/-- a place more; the places cut -/
theorem ry_pp {T : Nat → Nat} {n M i t w nw np a b d : Nat} {ls : List (List Nat)} {W : List (Nat × Nat × Nat × Nat)} {L : List (Nat × Nat)} {P : List (Nat × Nat × Nat)} {F : wq_F} (h : ry T n M i ls t w nw np W L P F) : ry T n M i ls t w nw np W L ((a, b, d) :: P) (wq_up (wq_up (wq_up (wq_up F 35 P.length a) 36 P.length b) 37 P.length d) 0 60 (P.length + 1)) := by
  obtain ⟨h1, ⟨h2, h2b, h2c, h2d⟩, ⟨h3, h4⟩, ⟨h5, h6⟩, ⟨h7, h8⟩⟩ := h
  have e : ∀ c j, ¬ (c = 0 ∧ j = 60) → ¬ (35 ≤ c ∧ c ≤ 37 ∧ j = P.length) → wq_up (wq_up (wq_up (wq_up F 35 P.length a) 36 P.length b) 37 P.length d) 0 60 (P.length + 1) c j = F c j := fun c j hc hd => by rw [wq_up_ne hc, wq_up_ne (by omega), wq_up_ne (by omega), wq_up_ne (by omega)]
  exact ⟨pm_at_x h1 (fun c j a b => e c j (by omega) (by omega)) (fun j hj => e 0 j (by omega) (by omega)), ⟨(e 0 47 (by decide) (by omega)).trans h2, (e 0 41 (by decide) (by omega)).trans h2b, (e 0 40 (by decide) (by omega)).trans h2c, (e 0 34 (by decide) (by omega)).trans h2d⟩, ⟨(e 0 46 (by decide) (by omega)).trans h3, ry_wa_x h4 (fun c j a b d => e c j (by omega) (by omega))⟩, ⟨(e 0 56 (by decide) (by omega)).trans h5, ry_lo_x h6 (fun c j a b _ => e c j (by omega) (by omega))⟩, ⟨wq_up_same _ _ _ _, ⟨by rw [wq_up_cell (by decide), wq_up_cell (by decide), wq_up_cell (by decide), wq_up_same], by rw [wq_up_cell (by decide), wq_up_cell (by decide), wq_up_same], by rw [wq_up_cell (by decide), wq_up_same]⟩, ry_pl_x h8 (fun c j a b d => e c j (by omega) (by omega))⟩⟩
theorem ry_pc {T : Nat → Nat} {n M i t w nw np : Nat} {ls : List (List Nat)} {W : List (Nat × Nat × Nat × Nat)} {L : List (Nat × Nat)} {A P : List (Nat × Nat × Nat)} {F : wq_F} (h : ry T n M i ls t w nw np W L (A ++ P) F) : ry T n M i ls t w nw np W L P (wq_up F 0 60 P.length) := by
  obtain ⟨h1, ⟨h2, h2b, h2c, h2d⟩, ⟨h3, h4⟩, ⟨h5, h6⟩, ⟨h7, h8⟩⟩ := h
  have e : ∀ c j, ¬ (c = 0 ∧ j = 60) → wq_up F 0 60 P.length c j = F c j := fun c j hc => wq_up_ne hc
  exact ⟨pm_at_x h1 (fun c j a b => e c j (by omega)) (fun j hj => e 0 j (by omega)), ⟨(e 0 47 (by omega)).trans h2, (e 0 41 (by omega)).trans h2b, (e 0 40 (by omega)).trans h2c, (e 0 34 (by omega)).trans h2d⟩, ⟨(e 0 46 (by omega)).trans h3, ry_wa_x h4 (fun c j a b d => e c j (by omega))⟩, ⟨(e 0 56 (by omega)).trans h5, ry_lo_x h6 (fun c j a b d => e c j (by omega))⟩, ⟨wq_up_same _ _ _ _, ry_pl_x (ry_pl_drop h8) (fun c j a b _ => e c j (by omega))⟩⟩
/-- its latest wait is taken, and it goes on; or fails -/
theorem ry_step {nn r : Nat} {T : Nat → Nat} {n M i t w nw np : Nat} {ls : List (List Nat)} {e : Nat × Nat × Nat × Nat} {W : List (Nat × Nat × Nat × Nat)} {L : List (Nat × Nat)} {P : List (Nat × Nat × Nat)} {F H : wq_F} (h : ry T n M i ls t w nw np (e :: W) L P F) (h4 : W.length < 4000) (hd : dk_32 nn (wq_up F 0 46 W.length) e.1 e.2.1 e.2.2.1 e.2.2.2 = some (r, H)) (hr : ¬ r = 0) (h0 : H 0 4 = 0) : rm_to nn F H := by
  obtain ⟨_, _, ⟨h3, ⟨a1, a2, a3, a4⟩, _⟩, _⟩ := h
  rw [← a1, ← a2, ← a3, ← a4] at hd
  exact rm_step h3 h4 hd hr h0
theorem ry_fail {nn r k p : Nat} {T : Nat → Nat} {n M i t w nw np : Nat} {ls : List (List Nat)} {e : Nat × Nat × Nat × Nat} {W : List (Nat × Nat × Nat × Nat)} {L : List (Nat × Nat)} {P : List (Nat × Nat × Nat)} {F H : wq_F} (h : ry T n M i ls t w nw np (e :: W) L P F) (h4 : W.length < 4000) (hd : dk_32 nn (wq_up F 0 46 W.length) e.1 e.2.1 e.2.2.1 e.2.2.2 = some (r, H)) (hr : r = 0 ∨ ¬ H 0 4 = 0) (hk : H 0 4 = k) (hp : H 0 5 = p) (hf : rm_fr F H) (h41 : H 0 41 < 13999) : rm_out nn k p F := by
  obtain ⟨_, _, ⟨h3, ⟨a1, a2, a3, a4⟩, _⟩, _⟩ := h
  rw [← a1, ← a2, ← a3, ← a4] at hd
  exact rm_fail h3 h4 hd hr hk hp hf h41
