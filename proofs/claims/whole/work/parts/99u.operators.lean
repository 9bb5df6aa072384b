/-! ===== 99u: operators (wip/whole2/law99u.py) ===== -/
def bop_l : List Nat := [43, 45, 42, 308, 37, 38, 124, 126, 306, 307, 300, 60, 62, 304, 305, 302, 303]
theorem bop_tab : ∀ x ∈ bop_l, ∃ o a b g z, (∀ (F : wq_F) (ln j : Nat), F 0 41 < 14000 → dk_241 F x ln j = some (1, pm_em (wq_up F 0 64 4294967295) o a b ln)) ∧ (∀ G : wq_F, dk_147 G (lx_sg x) = some (g, G)) ∧
    ((z = 0 ∧ (¬ lx_sg x = 67 ∧ ¬ tb_sg (lx_sg x) = 3) ∧ ∀ (H J : wq_F) (f p q : Nat) (d : List Nat), H 20 p = o → H 21 p = a → H 22 p = b → J 12 q = g → H 23 p = J 15 q → ∃ k, cs2 H J k f p q (0 :: 0 :: d) [(f, p + 1, q + 1, 0 :: d)]) ∨
     (((z = 25 ∧ lx_sg x = 67) ∨ (z = 26 ∧ ¬ lx_sg x = 67 ∧ tb_sg (lx_sg x) = 3)) ∧ ∀ (H J : wq_F) (f p q : Nat) (d : List Nat), H 20 p = o → H 21 p = a → H 22 p = b → J 12 q = g → H 23 p = J 15 q → J 12 (q + 1) = z → ∃ k, cs2 H J k f p q (0 :: 0 :: d) [(f, p + 1, q + 2, 0 :: d)])) := by
  intro x hx
  rcases List.mem_cons.mp hx with rfl | hx
  · refine ⟨31, 3, 0, 40, 0, ?_, ?_, ?_⟩
    · intro F ln j hl
      unfold dk_241
      rw [od_upS, if_neg (by decide), if_neg (by decide), if_neg (by decide), if_neg (by decide), show dk_234 (wq_up F 0 64 4294967295) 43 = some (10, wq_up F 0 64 4294967295) from rfl, od_bS]
      dsimp only
      rw [if_neg (by decide), show dk_240 (wq_up F 0 64 4294967295) 43 = some (3, wq_up F 0 64 4294967295) from rfl, od_bS]
      dsimp only
      rw [dkS_30 (by rw [wq_up_at (by decide)]; exact hl), od_bS]
    · intro G
      rfl
    · exact Or.inl ⟨rfl, ⟨by decide, by decide⟩, fun H J f p q d e1 e2 e3 e4 e5 => ⟨5, e1, by rw [e4, e2], by rw [e4]; decide, by rw [e4]; decide, e5, d, rfl, rfl⟩⟩
  rcases List.mem_cons.mp hx with rfl | hx
  · refine ⟨31, 4, 0, 41, 0, ?_, ?_, ?_⟩
    · intro F ln j hl
      unfold dk_241
      rw [od_upS, if_neg (by decide), if_neg (by decide), if_neg (by decide), if_neg (by decide), show dk_234 (wq_up F 0 64 4294967295) 45 = some (10, wq_up F 0 64 4294967295) from rfl, od_bS]
      dsimp only
      rw [if_neg (by decide), show dk_240 (wq_up F 0 64 4294967295) 45 = some (4, wq_up F 0 64 4294967295) from rfl, od_bS]
      dsimp only
      rw [dkS_30 (by rw [wq_up_at (by decide)]; exact hl), od_bS]
    · intro G
      rfl
    · exact Or.inl ⟨rfl, ⟨by decide, by decide⟩, fun H J f p q d e1 e2 e3 e4 e5 => ⟨5, e1, by rw [e4, e2], by rw [e4]; decide, by rw [e4]; decide, e5, d, rfl, rfl⟩⟩
  rcases List.mem_cons.mp hx with rfl | hx
  · refine ⟨31, 5, 0, 42, 0, ?_, ?_, ?_⟩
    · intro F ln j hl
      unfold dk_241
      rw [od_upS, if_neg (by decide), if_neg (by decide), if_neg (by decide), if_neg (by decide), show dk_234 (wq_up F 0 64 4294967295) 42 = some (11, wq_up F 0 64 4294967295) from rfl, od_bS]
      dsimp only
      rw [if_neg (by decide), show dk_240 (wq_up F 0 64 4294967295) 42 = some (5, wq_up F 0 64 4294967295) from rfl, od_bS]
      dsimp only
      rw [dkS_30 (by rw [wq_up_at (by decide)]; exact hl), od_bS]
    · intro G
      rfl
    · exact Or.inl ⟨rfl, ⟨by decide, by decide⟩, fun H J f p q d e1 e2 e3 e4 e5 => ⟨5, e1, by rw [e4, e2], by rw [e4]; decide, by rw [e4]; decide, e5, d, rfl, rfl⟩⟩
  rcases List.mem_cons.mp hx with rfl | hx
  · refine ⟨31, 6, 0, 43, 0, ?_, ?_, ?_⟩
    · intro F ln j hl
      unfold dk_241
      rw [od_upS, if_neg (by decide), if_neg (by decide), if_neg (by decide), if_neg (by decide), show dk_234 (wq_up F 0 64 4294967295) 308 = some (11, wq_up F 0 64 4294967295) from rfl, od_bS]
      dsimp only
      rw [if_neg (by decide), show dk_240 (wq_up F 0 64 4294967295) 308 = some (6, wq_up F 0 64 4294967295) from rfl, od_bS]
      dsimp only
      rw [dkS_30 (by rw [wq_up_at (by decide)]; exact hl), od_bS]
    · intro G
      rfl
    · exact Or.inl ⟨rfl, ⟨by decide, by decide⟩, fun H J f p q d e1 e2 e3 e4 e5 => ⟨5, e1, by rw [e4, e2], by rw [e4]; decide, by rw [e4]; decide, e5, d, rfl, rfl⟩⟩
  rcases List.mem_cons.mp hx with rfl | hx
  · refine ⟨31, 7, 0, 44, 0, ?_, ?_, ?_⟩
    · intro F ln j hl
      unfold dk_241
      rw [od_upS, if_neg (by decide), if_neg (by decide), if_neg (by decide), if_neg (by decide), show dk_234 (wq_up F 0 64 4294967295) 37 = some (11, wq_up F 0 64 4294967295) from rfl, od_bS]
      dsimp only
      rw [if_neg (by decide), show dk_240 (wq_up F 0 64 4294967295) 37 = some (7, wq_up F 0 64 4294967295) from rfl, od_bS]
      dsimp only
      rw [dkS_30 (by rw [wq_up_at (by decide)]; exact hl), od_bS]
    · intro G
      rfl
    · exact Or.inl ⟨rfl, ⟨by decide, by decide⟩, fun H J f p q d e1 e2 e3 e4 e5 => ⟨5, e1, by rw [e4, e2], by rw [e4]; decide, by rw [e4]; decide, e5, d, rfl, rfl⟩⟩
  rcases List.mem_cons.mp hx with rfl | hx
  · refine ⟨31, 8, 0, 45, 0, ?_, ?_, ?_⟩
    · intro F ln j hl
      unfold dk_241
      rw [od_upS, if_neg (by decide), if_neg (by decide), if_neg (by decide), if_neg (by decide), show dk_234 (wq_up F 0 64 4294967295) 38 = some (6, wq_up F 0 64 4294967295) from rfl, od_bS]
      dsimp only
      rw [if_neg (by decide), show dk_240 (wq_up F 0 64 4294967295) 38 = some (8, wq_up F 0 64 4294967295) from rfl, od_bS]
      dsimp only
      rw [dkS_30 (by rw [wq_up_at (by decide)]; exact hl), od_bS]
    · intro G
      rfl
    · exact Or.inl ⟨rfl, ⟨by decide, by decide⟩, fun H J f p q d e1 e2 e3 e4 e5 => ⟨5, e1, by rw [e4, e2], by rw [e4]; decide, by rw [e4]; decide, e5, d, rfl, rfl⟩⟩
  rcases List.mem_cons.mp hx with rfl | hx
  · refine ⟨31, 9, 0, 46, 0, ?_, ?_, ?_⟩
    · intro F ln j hl
      unfold dk_241
      rw [od_upS, if_neg (by decide), if_neg (by decide), if_neg (by decide), if_neg (by decide), show dk_234 (wq_up F 0 64 4294967295) 124 = some (4, wq_up F 0 64 4294967295) from rfl, od_bS]
      dsimp only
      rw [if_neg (by decide), show dk_240 (wq_up F 0 64 4294967295) 124 = some (9, wq_up F 0 64 4294967295) from rfl, od_bS]
      dsimp only
      rw [dkS_30 (by rw [wq_up_at (by decide)]; exact hl), od_bS]
    · intro G
      rfl
    · exact Or.inl ⟨rfl, ⟨by decide, by decide⟩, fun H J f p q d e1 e2 e3 e4 e5 => ⟨5, e1, by rw [e4, e2], by rw [e4]; decide, by rw [e4]; decide, e5, d, rfl, rfl⟩⟩
  rcases List.mem_cons.mp hx with rfl | hx
  · refine ⟨31, 10, 0, 47, 0, ?_, ?_, ?_⟩
    · intro F ln j hl
      unfold dk_241
      rw [od_upS, if_neg (by decide), if_neg (by decide), if_neg (by decide), if_neg (by decide), show dk_234 (wq_up F 0 64 4294967295) 126 = some (5, wq_up F 0 64 4294967295) from rfl, od_bS]
      dsimp only
      rw [if_neg (by decide), show dk_240 (wq_up F 0 64 4294967295) 126 = some (10, wq_up F 0 64 4294967295) from rfl, od_bS]
      dsimp only
      rw [dkS_30 (by rw [wq_up_at (by decide)]; exact hl), od_bS]
    · intro G
      rfl
    · exact Or.inl ⟨rfl, ⟨by decide, by decide⟩, fun H J f p q d e1 e2 e3 e4 e5 => ⟨5, e1, by rw [e4, e2], by rw [e4]; decide, by rw [e4]; decide, e5, d, rfl, rfl⟩⟩
  rcases List.mem_cons.mp hx with rfl | hx
  · refine ⟨31, 11, 0, 48, 0, ?_, ?_, ?_⟩
    · intro F ln j hl
      unfold dk_241
      rw [od_upS, if_neg (by decide), if_neg (by decide), if_neg (by decide), if_neg (by decide), show dk_234 (wq_up F 0 64 4294967295) 306 = some (7, wq_up F 0 64 4294967295) from rfl, od_bS]
      dsimp only
      rw [if_neg (by decide), show dk_240 (wq_up F 0 64 4294967295) 306 = some (11, wq_up F 0 64 4294967295) from rfl, od_bS]
      dsimp only
      rw [dkS_30 (by rw [wq_up_at (by decide)]; exact hl), od_bS]
    · intro G
      rfl
    · exact Or.inl ⟨rfl, ⟨by decide, by decide⟩, fun H J f p q d e1 e2 e3 e4 e5 => ⟨5, e1, by rw [e4, e2], by rw [e4]; decide, by rw [e4]; decide, e5, d, rfl, rfl⟩⟩
  rcases List.mem_cons.mp hx with rfl | hx
  · refine ⟨31, 12, 0, 49, 0, ?_, ?_, ?_⟩
    · intro F ln j hl
      unfold dk_241
      rw [od_upS, if_neg (by decide), if_neg (by decide), if_neg (by decide), if_neg (by decide), show dk_234 (wq_up F 0 64 4294967295) 307 = some (7, wq_up F 0 64 4294967295) from rfl, od_bS]
      dsimp only
      rw [if_neg (by decide), show dk_240 (wq_up F 0 64 4294967295) 307 = some (12, wq_up F 0 64 4294967295) from rfl, od_bS]
      dsimp only
      rw [dkS_30 (by rw [wq_up_at (by decide)]; exact hl), od_bS]
    · intro G
      rfl
    · exact Or.inl ⟨rfl, ⟨by decide, by decide⟩, fun H J f p q d e1 e2 e3 e4 e5 => ⟨5, e1, by rw [e4, e2], by rw [e4]; decide, by rw [e4]; decide, e5, d, rfl, rfl⟩⟩
  rcases List.mem_cons.mp hx with rfl | hx
  · refine ⟨33, 0, 0, 52, 0, ?_, ?_, ?_⟩
    · intro F ln j hl
      unfold dk_241
      rw [od_upS, if_neg (by decide), if_pos rfl, dkS_30 (by rw [wq_up_at (by decide)]; exact hl), od_bS]
    · intro G
      rfl
    · exact Or.inl ⟨rfl, ⟨by decide, by decide⟩, fun H J f p q d e1 e2 e3 e4 e5 => ⟨7, e1, e4, e5, d, rfl, rfl⟩⟩
  rcases List.mem_cons.mp hx with rfl | hx
  · refine ⟨37, 0, 0, 55, 26, ?_, ?_, ?_⟩
    · intro F ln j hl
      unfold dk_241
      rw [od_upS, if_neg (by decide), if_neg (by decide), if_neg (by decide), if_neg (by decide), show dk_234 (wq_up F 0 64 4294967295) 60 = some (3, wq_up F 0 64 4294967295) from rfl, od_bS]
      dsimp only
      rw [if_pos rfl, if_neg (by decide), if_neg (by decide)]
      unfold dk_241_116
      rw [if_neg (by decide), if_neg (by decide), dkS_30 (by rw [wq_up_at (by decide)]; exact hl), od_bS]
    · intro G
      rfl
    · exact Or.inr ⟨Or.inr ⟨rfl, by decide, by decide⟩, fun H J f p q d e1 e2 e3 e4 e5 e6 => ⟨11, e1, e6, e5, Or.inl ⟨e2, e3, e4⟩, d, rfl, rfl⟩⟩
  rcases List.mem_cons.mp hx with rfl | hx
  · refine ⟨37, 0, 1, 57, 26, ?_, ?_, ?_⟩
    · intro F ln j hl
      unfold dk_241
      rw [od_upS, if_neg (by decide), if_neg (by decide), if_neg (by decide), if_neg (by decide), show dk_234 (wq_up F 0 64 4294967295) 62 = some (3, wq_up F 0 64 4294967295) from rfl, od_bS]
      dsimp only
      rw [if_pos rfl, if_neg (by decide), if_neg (by decide)]
      unfold dk_241_116
      rw [if_pos rfl, dkS_30 (by rw [wq_up_at (by decide)]; exact hl), od_bS]
    · intro G
      rfl
    · exact Or.inr ⟨Or.inr ⟨rfl, by decide, by decide⟩, fun H J f p q d e1 e2 e3 e4 e5 e6 => ⟨11, e1, e6, e5, Or.inr (Or.inr (Or.inl ⟨e2, e3, e4⟩)), d, rfl, rfl⟩⟩
  rcases List.mem_cons.mp hx with rfl | hx
  · refine ⟨37, 1, 0, 56, 26, ?_, ?_, ?_⟩
    · intro F ln j hl
      unfold dk_241
      rw [od_upS, if_neg (by decide), if_neg (by decide), if_neg (by decide), if_neg (by decide), show dk_234 (wq_up F 0 64 4294967295) 304 = some (3, wq_up F 0 64 4294967295) from rfl, od_bS]
      dsimp only
      rw [if_pos rfl, if_pos rfl]
      unfold dk_241_116
      rw [if_neg (by decide), if_neg (by decide), dkS_30 (by rw [wq_up_at (by decide)]; exact hl), od_bS]
    · intro G
      rfl
    · exact Or.inr ⟨Or.inr ⟨rfl, by decide, by decide⟩, fun H J f p q d e1 e2 e3 e4 e5 e6 => ⟨11, e1, e6, e5, Or.inr (Or.inl ⟨e2, e3, e4⟩), d, rfl, rfl⟩⟩
  rcases List.mem_cons.mp hx with rfl | hx
  · refine ⟨37, 1, 1, 58, 26, ?_, ?_, ?_⟩
    · intro F ln j hl
      unfold dk_241
      rw [od_upS, if_neg (by decide), if_neg (by decide), if_neg (by decide), if_neg (by decide), show dk_234 (wq_up F 0 64 4294967295) 305 = some (3, wq_up F 0 64 4294967295) from rfl, od_bS]
      dsimp only
      rw [if_pos rfl, if_neg (by decide), if_pos rfl]
      unfold dk_241_116
      rw [if_neg (by decide), if_pos rfl, dkS_30 (by rw [wq_up_at (by decide)]; exact hl), od_bS]
    · intro G
      rfl
    · exact Or.inr ⟨Or.inr ⟨rfl, by decide, by decide⟩, fun H J f p q d e1 e2 e3 e4 e5 e6 => ⟨11, e1, e6, e5, Or.inr (Or.inr (Or.inr ⟨e2, e3, e4⟩)), d, rfl, rfl⟩⟩
  rcases List.mem_cons.mp hx with rfl | hx
  · refine ⟨36, 0, 0, 54, 26, ?_, ?_, ?_⟩
    · intro F ln j hl
      unfold dk_241
      rw [od_upS, if_neg (by decide), if_neg (by decide), if_pos rfl]
      unfold dk_241_61
      rw [if_neg (by decide), dkS_30 (by rw [wq_up_at (by decide)]; exact hl), od_bS]
    · intro G
      rfl
    · exact Or.inr ⟨Or.inr ⟨rfl, by decide, by decide⟩, fun H J f p q d e1 e2 e3 e4 e5 e6 => ⟨10, e1, e4, e5, Or.inl ⟨e2, e6⟩, d, rfl, rfl⟩⟩
  rcases List.mem_cons.mp hx with rfl | hx
  · refine ⟨36, 1, 0, 54, 25, ?_, ?_, ?_⟩
    · intro F ln j hl
      unfold dk_241
      rw [od_upS, if_neg (by decide), if_neg (by decide), if_neg (by decide), if_pos rfl]
      unfold dk_241_61
      rw [if_pos rfl, dkS_30 (by rw [wq_up_at (by decide)]; exact hl), od_bS]
    · intro G
      rfl
    · exact Or.inr ⟨Or.inl ⟨rfl, by decide⟩, fun H J f p q d e1 e2 e3 e4 e5 e6 => ⟨10, e1, e4, e5, Or.inr ⟨e2, e6⟩, d, rfl, rfl⟩⟩
  cases hx
section
variable {nn : Nat} {T : Nat → Nat} {n M O : Nat} {G0 : wq_F} {c0 : List (List Nat)} {i t w s nw ns np N : Nat} {off voff ph : Nat → Nat} {cx : Nat → List Nat} {c cb : List Nat} {W : List (Nat × Nat × Nat × Nat)} {L : List (Nat × Nat)} {P Q : List (Nat × Nat × Nat)} {ls cs : List (List Nat)} {F G : wq_F}

/-- an expression where the class is stopped -/
theorem sx_148 {k e p B l d : Nat} (h : sx T n G0 c0 O e p N B G) (hk : 1 ≤ k) : wok (dk_R nn k 148 [l, d] G) (fun r K => r = 0 ∧ sx T n G0 c0 O e p N B K) := by
  obtain ⟨k, rfl⟩ : ∃ m, k = m + 1 := ⟨k - 1, by omega⟩
  rw [dk_Re_148]
  unfold dk_148
  refine wok_b (sx_114 h) fun r K h => ?_
  refine wok_t h.1 ?_
  exact wok_b (sx_109 h.2) fun r K h => wok_r ⟨rfl, h⟩
theorem dkA_147 (G : wq_F) (v : Nat) : ∃ g, dk_147 G v = some (g, G) := by
  have h : ∀ (C : Prop) [Decidable C] (g : Nat) (m : Option (Nat × wq_F)), (∃ x, m = some (x, G)) → ∃ x, (if C then some (g, G) else m) = some (x, G) := fun C _ g m h => by
    by_cases q : C
    · exact ⟨g, if_pos q⟩
    · rw [if_neg q]
      exact h
  unfold dk_147
  repeat (refine h _ _ _ ?_)
  exact ⟨_, rfl⟩
/-- the operator before an operand, once the operand stands -/
theorem un_step {x ln : Nat} (hr : ry T n M i ls t w nw np ((5, x, ln, 0) :: W) L P F) (hc : cy T n G0 c0 O i cs s ns np N Q G) (hb : bz N off voff ph cx (0 :: c) np F ls G cs) (hx : x = 0 ∨ x = 35 ∨ x = 45 ∨ x = 126) (hw : w < 13990) (hs : s < 9990) (hW : W.length < 3990) (hh : hg c < 100000) (hnp : np ≤ 50) :
    wok (dk_112 G (un_of x) 0 ln 0) (fun _ K => ∃ H, (rm_to nn F H ∧ rm_fr F H) ∧ eg T n M G0 c0 O N off voff ph cx cb F G i ls cs w s nw ns np (0 :: c) t W L P Q H K i ls cs (w + 1) (s + 1) nw ns np (0 :: c) ∧ H 0 64 = 4294967295) := by
  have h1 := ry_pop hr
  have hw1 : wq_up F 0 46 W.length 0 41 = w := h1.2.1.2.1
  have key : ∃ o a l, dk_242 (wq_up F 0 46 W.length) x ln = some (1, pm_em (wq_up (wq_up F 0 46 W.length) 0 64 4294967295) o a 0 l) ∧ ∀ (H J : wq_F) (f : Nat), H 20 w = o → H 21 w = a → H 23 w = l → J 12 s = un_of x → J 15 s = ln → ∃ k, cs2 H J k f w s (0 :: c) [(f, w + 1, s + 1, 0 :: c)] := by
    have hw2 : wq_up (wq_up F 0 46 W.length) 0 64 4294967295 0 41 < 14000 := by
      rw [wq_up_at (by decide), hw1]
      omega
    rcases hx with e | e | e | e
    · subst e
      refine ⟨35, 0, 0, ?_, fun H J f e1 e2 e3 e4 e5 => ⟨9, e1, e4, c, rfl, rfl⟩⟩
      unfold dk_242
      rw [od_upS, if_pos rfl, dkS_30 hw2, od_bS]
    · subst e
      refine ⟨34, 0, ln, ?_, fun H J f e1 e2 e3 e4 e5 => ⟨8, e1, e4, e3.trans e5.symm, c, rfl, rfl⟩⟩
      unfold dk_242
      rw [od_upS, if_neg (by decide), if_pos rfl, dkS_30 hw2, od_bS]
    · subst e
      refine ⟨32, 13, ln, ?_, fun H J f e1 e2 e3 e4 e5 => ⟨6, e1, by rw [e4, e2]; decide, by rw [e4]; decide, by rw [e4]; decide, e3.trans e5.symm, c, rfl, rfl⟩⟩
      unfold dk_242
      rw [od_upS, if_neg (by decide), if_neg (by decide), if_pos rfl, dkS_30 hw2, od_bS]
    · subst e
      refine ⟨32, 14, ln, ?_, fun H J f e1 e2 e3 e4 e5 => ⟨6, e1, by rw [e4, e2]; decide, by rw [e4]; decide, by rw [e4]; decide, e3.trans e5.symm, c, rfl, rfl⟩⟩
      unfold dk_242
      rw [od_upS, if_neg (by decide), if_neg (by decide), if_neg (by decide), dkS_30 hw2, od_bS]
  obtain ⟨o, a, l, e1, hf⟩ := key
  have h2 : ry T n M i ls t (w + 1) nw np W L P (pm_em (wq_up (wq_up F 0 46 W.length) 0 64 4294967295) o a 0 l) := ry_em (ry_up h1 (by unfold ry_n; omega))
  have hw3 : wq_up (wq_up F 0 46 W.length) 0 64 4294967295 0 41 = w := by
    rw [wq_up_at (by decide), hw1]
  have hat := pm_em_at (F := wq_up (wq_up F 0 46 W.length) 0 64 4294967295) (op := o) (a := a) (b := 0) (ln := l)
  rw [hw3] at hat
  have fm : ∀ d j, ¬ (20 ≤ d ∧ d ≤ 23 ∧ j = w) → ¬ d = 0 → pm_em (wq_up (wq_up F 0 46 W.length) 0 64 4294967295) o a 0 l d j = F d j := fun d j h3 h4 => by
    rw [pm_em_ne (by omega) (by omega), wq_up_cell (by omega), wq_up_cell (by omega)]
  have hgo := ry_go hr (by show W.length < 4000; omega) (rgo_i (r := 1) (K := pm_em (wq_up (wq_up F 0 46 W.length) 0 64 4294967295) o a 0 l) (by
    show dk_32 nn _ 5 x ln 0 = _
    rw [dk32_5, e1, od_bS]) (by decide) h2.1.1 (rm_fr_em (rm_fr_up (rm_fr_up (rm_fr_refl _) (by decide) (by decide)) (by decide) (by decide))))
  refine wok_m (cy_112 (d := 0 :: c) hc hb (by omega) (by rw [hg_0]; omega) (fun k _ _ h => h) (bz_fr hb)) fun r K hK => ?_
  obtain ⟨k1, k2, k3, k4, k5⟩ := hK
  refine ⟨_, hgo, ⟨h2, k1, bz_F k2 (bzF_em (bzF_up (bzF_up (bzF_refl _) (by omega)) (by omega))), ?_, ⟨st_sf_refl _, st_pre_refl _, ⟨fun l _ => ⟨k4 62 l (by omega), k4 65 l (by omega)⟩, fun l _ e6 h6 => k4 e6 l (by omega)⟩⟩, Nat.le_refl _, hnp⟩, ?_⟩
  · refine pj_1 ⟨by omega, by omega, by omega, by omega⟩ (fun d j h => fm d j (by omega) (by omega)) (fun d j h => k4 d j (by omega)) (fun H J nm ha hb2 _ => Or.inr ?_)
    refine hf H J _ ?_ ?_ ?_ ?_ ?_
    · rw [ha.1 20 w (by decide) (by decide) (by omega) (by omega)]; exact hat.1
    · rw [ha.1 21 w (by decide) (by decide) (by omega) (by omega)]; exact hat.2.1
    · rw [ha.1 23 w (by decide) (by decide) (by omega) (by omega)]; exact hat.2.2.2.1
    · rw [hb2.1 12 s (by decide) (by decide) (by omega) (by omega)]; exact k3.1
    · rw [hb2.1 15 s (by decide) (by decide) (by omega) (by omega)]; exact k3.2.2.2
  · rw [pm_em_ne (by omega) (by omega), wq_up_same]
end
