/-! ===== 99n: the code of both sides, related by points (wip/whole2/99n.txt) ===== -/
/-- what stands in a frame, the topmost first: 0 a value on both sides, 1 the reference's mark, 2 any number of values on both sides (one, as the parser counts), 3 a value of the class alone, 4 a string, s + 5 the local of slot s; hg: how high the class's stack is -/
def hg : List Nat → Nat
  | [] => 0
  | e :: c => (if e = 1 then 0 else 1) + hg c
theorem hg_app : ∀ {a b : List Nat}, hg (a ++ b) = hg a + hg b
  | [], b => by show hg b = 0 + hg b; omega
  | e :: a, b => by
    show (if e = 1 then 0 else 1) + hg (a ++ b) = (if e = 1 then 0 else 1) + hg a + hg b
    rw [hg_app (a := a)]
    omega
theorem hg_0 {c : List Nat} : hg (0 :: c) = hg c + 1 := by show 1 + hg c = _; omega
theorem hg_1 {c : List Nat} : hg (1 :: c) = hg c := by show 0 + hg c = _; omega
theorem hg_2 {c : List Nat} : hg (2 :: c) = hg c + 1 := by show 1 + hg c = _; omega
theorem hg_3 {c : List Nat} {e : Nat} (h : 3 ≤ e) : hg (e :: c) = hg c + 1 := by
  show (if e = 1 then 0 else 1) + hg c = _
  rw [if_neg (by omega)]
  omega
theorem hg_rep : ∀ {m : Nat}, hg (List.replicate m 0) = m
  | 0 => rfl
  | m + 1 => by rw [List.replicate_succ, hg_0, hg_rep]
/-- the local of slot s stands at height p -/
def cx_at (c : List Nat) (p s : Nat) : Prop := ∃ a b, c = a ++ (s + 5) :: b ∧ hg b = p
theorem cx_at_up {c : List Nat} {p s : Nat} (h : cx_at c p s) (d : List Nat) : cx_at (d ++ c) p s := by
  obtain ⟨a, b, e, f⟩ := h
  exact ⟨d ++ a, b, by rw [e, List.append_assoc], f⟩
theorem cx_at_c {c : List Nat} {p s e : Nat} (h : cx_at c p s) : cx_at (e :: c) p s := cx_at_up h [e]
theorem cx_at_lt {c : List Nat} {p s : Nat} (h : cx_at c p s) : p < hg c := by
  obtain ⟨a, b, e, f⟩ := h
  rw [e, hg_app, hg_3 (by omega)]
  omega
theorem cx_at_mem {c : List Nat} {p s : Nat} (h : cx_at c p s) : s + 5 ∈ c := by
  obtain ⟨a, b, e, f⟩ := h
  rw [e]
  exact List.mem_append_right a (List.mem_cons_self ..)
/-- a point: the function, the places in both codes, what stands in the frame -/
abbrev pt : Type := Nat × Nat × Nat × List Nat
/-- an instruction of the reference, of the class -/
def rI (F : wq_F) (p o a b l : Nat) : Prop := F 20 p = o ∧ F 21 p = a ∧ F 22 p = b ∧ F 23 p = l
def cI (G : wq_F) (q o a b l : Nat) : Prop := G 12 q = o ∧ G 13 q = a ∧ G 14 q = b ∧ G 15 q = l
/-- the locals of the slots from s on, so many -/
def lcs : Nat → Nat → List Nat
  | _, 0 => []
  | s, m + 1 => (s + m + 5) :: lcs s m
/-- the pairs of instructions; l: where both may go on -/
def cs1 (F G : wq_F) (nm : Nat → Nat → Prop) (k f p q : Nat) (c : List Nat) (l : List pt) : Prop := match k with
  | 0 => F 20 p = 0 ∧ G 12 q = 0 ∧ l = [(f, p + 1, q + 1, c)]
  | 1 => F 20 p = 1 ∧ G 12 q = 1 ∧ G 13 q = 1 ∧ l = [(f, p + 1, q + 1, 0 :: c)]
  | 2 => F 20 p = 2 ∧ G 12 q = 2 ∧ F 21 p = G 13 q ∧ G 13 q < 2 ∧ l = [(f, p + 1, q + 1, 0 :: c)]
  | 3 => F 20 p = 4 ∧ G 12 q = 3 ∧ F 21 p < 1501 ∧ G 13 q < 10000 ∧ F 24 (F 21 p) = G 16 (G 13 q) ∧ l = [(f, p + 1, q + 1, 0 :: c)]
  | 4 => F 20 p = 5 ∧ G 12 q = 4 ∧ nm (F 21 p) (G 13 q) ∧ l = [(f, p + 1, q + 1, 0 :: c)]
  | 5 => F 20 p = 6 ∧ G 12 q = 5 ∧ cx_at c (G 13 q) (F 21 p) ∧ l = [(f, p + 1, q + 1, 0 :: c)]
  | 6 => F 20 p = 7 ∧ G 12 q = 7 ∧ F 21 p = G 13 q ∧ F 21 p < F 15 f ∧ l = [(f, p + 1, q + 1, 0 :: c)]
  | 7 => F 20 p = 8 ∧ G 12 q = 9 ∧ nm (F 21 p) (G 13 q) ∧ l = [(f, p + 1, q + 1, 0 :: c)]
  | 8 => F 20 p = 9 ∧ G 12 q = 6 ∧ ∃ d, c = 0 :: d ∧ cx_at d (G 13 q) (F 21 p) ∧ l = [(f, p + 1, q + 1, d)]
  | 9 => F 20 p = 10 ∧ G 12 q = 8 ∧ F 21 p = G 13 q ∧ F 21 p < F 15 f ∧ ∃ d, c = 0 :: d ∧ l = [(f, p + 1, q + 1, d)]
  | 10 => F 20 p = 11 ∧ G 12 q = 10 ∧ nm (F 21 p) (G 13 q) ∧ ∃ d, c = 0 :: d ∧ l = [(f, p + 1, q + 1, d)]
  | 11 => F 20 p = 12 ∧ G 12 q = 11 ∧ F 23 p = G 15 q ∧ ∃ d, c = 0 :: 0 :: d ∧ l = [(f, p + 1, q + 1, 0 :: d)]
  | 12 => F 20 p = 13 ∧ G 12 q = 12 ∧ F 23 p = G 15 q ∧ ∃ a b, c = 0 :: (a ++ 1 :: b) ∧ (∀ e ∈ a, e = 0) ∧ F 21 p + 1 < a.length ∧ G 13 q = hg b + F 21 p ∧ l = [(f, p + 1, q + 1, a ++ 1 :: b)]
  | 13 => F 20 p = 14 ∧ l = [(f, p + 1, q, 1 :: c)]
  | 14 => F 20 p = 15 ∧ ∃ d, c = 0 :: d ∧ l = [(f, p + 1, q, 0 :: 1 :: d)]
  | 15 => F 20 p = 16 ∧ G 12 q = 19 ∧ F 23 p = G 15 q ∧ ∃ a b, c = a ++ 1 :: 0 :: b ∧ ((∀ e ∈ a, e = 0) ∨ ∃ d, a = 2 :: d ∧ ∀ e ∈ d, e = 0) ∧ G 13 q = hg b ∧ ((F 21 p = 0 ∧ G 14 q = 0 ∧ l = [(f, p + 1, q + 1, b)]) ∨ (F 21 p = 1 ∧ G 14 q = 1 ∧ l = [(f, p + 1, q + 1, 0 :: b)]) ∨ (F 21 p = 4294967295 ∧ G 14 q = 4294967295 ∧ l = [(f, p + 1, q + 1, 2 :: b)]))
  | 16 => F 20 p = 17 ∧ F 20 (p + 1) = 18 ∧ G 12 q = 28 ∧ F 23 p = G 15 q ∧ ∃ a b, c = a ++ 1 :: b ∧ ((∀ e ∈ a, e = 0) ∨ ∃ d, a = 2 :: d ∧ ∀ e ∈ d, e = 0) ∧ G 13 q = hg b ∧ F 21 (p + 1) = G 14 q ∧ G 14 q ≤ 50 ∧ l = [(f, p + 2, q + 1, List.replicate (G 14 q) 0 ++ b)]
  | 17 => F 20 p = 17 ∧ F 20 (p + 1) = 18 ∧ F 21 (p + 1) ≤ 30 ∧ ∃ b, c = List.replicate (F 21 (p + 1)) 0 ++ 1 :: b ∧ l = [(f, p + 2, q, List.replicate (F 21 (p + 1)) 0 ++ b)]
  | 18 => F 20 p = 18 ∧ G 12 q = 1 ∧ F 21 p = G 13 q ∧ G 13 q ≤ 50 ∧ ∃ b, c = 1 :: b ∧ l = [(f, p + 1, q + 1, List.replicate (G 13 q) 0 ++ b)]
  | 19 => F 20 p = 19 ∧ F 21 p < 50 ∧ ∃ a b, c = a ++ 0 :: b ∧ (∀ e ∈ a, 5 ≤ e) ∧ ¬ (F 21 p + 5) ∈ c ∧ l = [(f, p + 1, q, a ++ (F 21 p + 5) :: b)]
  | 20 => F 20 p = 20 ∧ l = [(f, p + 1, q, c.map (fun e => if F 21 p + 5 ≤ e then 3 else e))]
  | 21 => F 20 p = 20 ∧ G 12 q = 27 ∧ ∃ a b, c = a ++ b ∧ (∀ e ∈ a, 3 ≤ e) ∧ G 13 q = hg b ∧ (∀ e ∈ b, e < F 21 p + 5) ∧ l = [(f, p + 1, q + 1, b)]
  | 22 => F 20 p = 20 ∧ F 20 (p + 1) = 44 ∧ F 21 (p + 1) = 3 ∧ G 12 q = 27 ∧ ∃ a b, c = a ++ 0 :: 0 :: 0 :: b ∧ (∀ e ∈ a, 3 ≤ e) ∧ G 13 q = hg b ∧ (∀ e ∈ b, e < F 21 p + 5) ∧ l = [(f, p + 2, q + 1, b)]
  | 23 => F 20 p = 21 ∧ G 12 q = 21 ∧ (p < F 21 p ∨ F 20 (F 21 p) = 0) ∧ l = [(f, F 21 p, G 14 q, c)]
  | 24 => F 20 p = 22 ∧ G 12 q = 22 ∧ p < F 21 p ∧ ∃ d, c = 0 :: d ∧ l = [(f, p + 1, q + 1, d), (f, F 21 p, G 14 q, d)]
  | 25 => F 20 p = 22 ∧ G 12 q = 22 ∧ F 20 (F 21 p) = 0 ∧ G 14 q = q + 2 ∧ G 12 (q + 1) = 21 ∧ G 12 (q + 2) = 27 ∧ G 12 (q + 3) = 21 ∧ ∃ a b, c = 0 :: (a ++ b) ∧ (∀ e ∈ a, e = 3) ∧ G 13 (q + 2) = hg b ∧ l = [(f, p + 1, G 14 (q + 1), a ++ b), (f, F 21 p, G 14 (q + 3), b)]
  | 26 => (F 20 p = 23 ∨ F 20 p = 24) ∧ G 12 q = F 20 p ∧ p < F 21 p ∧ ∃ d, c = 0 :: d ∧ l = [(f, p + 1, q + 1, d), (f, F 21 p, G 14 q, c)]
  | 27 => F 20 p = 21 ∧ p < F 21 p ∧ F 20 (F 21 p) = 25 ∧ G 12 q = 18 ∧ F 21 (F 21 p) = G 13 q ∧ G 13 q < 50 ∧ F 13 (G 13 q) = G 18 (G 13 q) ∧ G 18 (G 13 q) ≤ 50 ∧ F 16 (G 13 q) = G 22 (G 13 q) ∧ F 15 (G 13 q) = G 20 (G 13 q) ∧ G 20 (G 13 q) ≤ 30 ∧
    (∀ j, j < F 15 (G 13 q) → (F 18 (30 * G 13 q + j) = 1 ∧ cx_at c (G 23 (30 * G 13 q + j)) (F 19 (30 * G 13 q + j))) ∨ (F 18 (30 * G 13 q + j) = 0 ∧ F 19 (30 * G 13 q + j) < F 15 f ∧ G 23 (30 * G 13 q + j) = 4294967295 - F 19 (30 * G 13 q + j))) ∧
    l = [(f, F 21 p + 1, G 14 q, 0 :: c), (G 13 q, F 12 (G 13 q), G 17 (G 13 q), lcs 0 (G 18 (G 13 q)))]
  | 28 => F 20 p = 5 ∧ G 12 q = 4 ∧ nm (F 21 p) (G 13 q) ∧ l = [(f, p + 1, q + 1, 4 :: c)]
  | _ => False
def cs2 (F G : wq_F) (k f p q : Nat) (c : List Nat) (l : List pt) : Prop := match k with
  | 0 => F 20 p = 26 ∧ G 12 q = 13 ∧ l = [(f, p + 1, q + 1, 0 :: c)]
  | 1 => F 20 p = 27 ∧ G 12 q = 14 ∧ F 23 p = G 15 q ∧ ∃ b, c = 0 :: 0 :: 0 :: b ∧ l = [(f, p + 1, q + 1, 0 :: b)]
  | 2 => F 20 p = 28 ∧ G 12 q = 15 ∧ F 21 p = G 13 q ∧ ∃ b, c = 0 :: 1 :: 0 :: b ∧ l = [(f, p + 1, q + 1, 0 :: b)]
  | 3 => F 20 p = 29 ∧ G 12 q = 16 ∧ F 21 p = G 13 q ∧ ∃ b, c = 2 :: 1 :: 0 :: b ∧ G 14 q = hg b ∧ l = [(f, p + 1, q + 1, 0 :: b)]
  | 4 => F 20 p = 30 ∧ G 12 q = 17 ∧ ((F 21 p = 1 ∧ G 14 q = 1 ∧ l = [(f, p + 1, q + 1, 0 :: c)]) ∨ (F 21 p = 4294967295 ∧ G 14 q = 4294967295 ∧ l = [(f, p + 1, q + 1, 2 :: c)]))
  | 5 => F 20 p = 31 ∧ G 12 q = F 21 p + 37 ∧ 40 ≤ G 12 q ∧ G 12 q ≤ 49 ∧ F 23 p = G 15 q ∧ ∃ b, c = 0 :: 0 :: b ∧ l = [(f, p + 1, q + 1, 0 :: b)]
  | 6 => F 20 p = 32 ∧ G 12 q = F 21 p + 37 ∧ 50 ≤ G 12 q ∧ G 12 q ≤ 51 ∧ F 23 p = G 15 q ∧ ∃ b, c = 0 :: b ∧ l = [(f, p + 1, q + 1, 0 :: b)]
  | 7 => F 20 p = 33 ∧ G 12 q = 52 ∧ F 23 p = G 15 q ∧ ∃ b, c = 0 :: 0 :: b ∧ l = [(f, p + 1, q + 1, 0 :: b)]
  | 8 => F 20 p = 34 ∧ G 12 q = 53 ∧ F 23 p = G 15 q ∧ ∃ b, c = 0 :: b ∧ l = [(f, p + 1, q + 1, 0 :: b)]
  | 9 => F 20 p = 35 ∧ G 12 q = 25 ∧ ∃ b, c = 0 :: b ∧ l = [(f, p + 1, q + 1, 0 :: b)]
  | 10 => F 20 p = 36 ∧ G 12 q = 54 ∧ F 23 p = G 15 q ∧ ((F 21 p = 0 ∧ G 12 (q + 1) = 26) ∨ (F 21 p = 1 ∧ G 12 (q + 1) = 25)) ∧ ∃ b, c = 0 :: 0 :: b ∧ l = [(f, p + 1, q + 2, 0 :: b)]
  | 11 => F 20 p = 37 ∧ G 12 (q + 1) = 26 ∧ F 23 p = G 15 q ∧ ((F 21 p = 0 ∧ F 22 p = 0 ∧ G 12 q = 55) ∨ (F 21 p = 1 ∧ F 22 p = 0 ∧ G 12 q = 56) ∨ (F 21 p = 0 ∧ F 22 p = 1 ∧ G 12 q = 57) ∨ (F 21 p = 1 ∧ F 22 p = 1 ∧ G 12 q = 58)) ∧ ∃ b, c = 0 :: 0 :: b ∧ l = [(f, p + 1, q + 2, 0 :: b)]
  | 12 => F 20 p = 17 ∧ F 20 (p + 1) = 38 ∧ G 12 q = 20 ∧ F 23 p = G 15 q ∧ ∃ a b, c = a ++ 1 :: b ∧ ((∀ e ∈ a, e = 0) ∨ ∃ d, a = 2 :: d ∧ ∀ e ∈ d, e = 0) ∧ G 13 q = hg b ∧ l = []
  | 13 => F 20 p = 38 ∧ G 12 q = 20 ∧ ∃ b, c = 1 :: b ∧ G 13 q = hg b ∧ l = []
  | 14 => F 20 p = 39 ∧ G 12 q = 31 ∧ F 23 p = G 15 q ∧ ∃ b, c = 0 :: 0 :: 0 :: b ∧ G 13 q = hg b ∧ l = [(f, p + 1, q + 1, c)]
  | 15 => F 20 p = 40 ∧ G 12 q = 32 ∧ F 22 p < 50 ∧ ¬ (F 22 p + 5) ∈ c ∧ p < F 21 p ∧ ∃ b, c = 0 :: 0 :: 0 :: b ∧ G 13 q = hg b ∧ l = [(f, p + 1, q + 1, (F 22 p + 5) :: c), (f, F 21 p, G 14 q, c)]
  | 16 => F 20 p = 41 ∧ G 12 q = 33 ∧ F 20 (F 22 p) = 0 ∧ p < F 21 p ∧ ∃ b, c = 0 :: 0 :: 0 :: b ∧ G 13 q = hg b ∧ l = [(f, F 22 p, G 14 q, c), (f, F 21 p, q + 1, c)]
  | 17 => F 20 p = 42 ∧ F 21 p ≤ 50 ∧ ∃ b, c = 0 :: 0 :: 0 :: b ∧ G 12 q = 5 ∧ G 13 q = hg b ∧ G 12 (q + 1) = 5 ∧ G 13 (q + 1) = hg b + 1 ∧ G 12 (q + 2) = 5 ∧ G 13 (q + 2) = hg b + 2 ∧ cI G (q + 3) 19 (hg b + 3) (F 21 p) (F 23 p) ∧ l = [(f, p + 1, q + 4, List.replicate (F 21 p) 0 ++ c)]
  | 18 => F 20 p = 43 ∧ G 12 q = 34 ∧ p < F 21 p ∧ ∃ m s b, 1 ≤ m ∧ s + m ≤ 50 ∧ F 22 p = m * 100 + s ∧ c = List.replicate m 0 ++ 0 :: 0 :: 0 :: b ∧ G 13 q = hg b ∧ (∀ e ∈ b, e < s + 5) ∧ l = [(f, p + 1, q + 1, lcs s m ++ 0 :: 0 :: 0 :: b), (f, F 21 p, G 14 q, List.replicate m 3 ++ 0 :: 0 :: 0 :: b)]
  | 19 => F 20 p = 47 ∧ G 12 q = 27 ∧ ∃ a b, c = a ++ 1 :: b ∧ (∀ e ∈ a, e = 0) ∧ G 13 q = hg b ∧ l = [(f, p + 1, q + 1, b)]
  | 20 => F 20 p = 47 ∧ ∃ b, c = 1 :: b ∧ l = [(f, p + 1, q, b)]
  | 21 => F 20 p = 45 ∧ G 12 q = 29 ∧ ∃ b, c = 0 :: b ∧ l = [(f, p + 1, q + 1, 0 :: c)]
  | 22 => F 20 p = 46 ∧ G 12 q = 30 ∧ ∃ b, c = 0 :: 0 :: b ∧ l = [(f, p + 1, q + 1, c)]
  | 23 => F 20 p = 27 ∧ G 12 q = 14 ∧ ∃ b, c = 0 :: 4 :: 0 :: b ∧ l = [(f, p + 1, q + 1, 0 :: b)]
  | _ => False
def cd (F G : wq_F) (nm : Nat → Nat → Prop) (t : pt) (l : List pt) : Prop := (∃ k, cs1 F G nm k t.1 t.2.1 t.2.2.1 t.2.2.2 l) ∨ ∃ k, cs2 F G k t.1 t.2.1 t.2.2.1 t.2.2.2 l
/-- both codes go together from here, but for the points of X -/
def sg (F G : wq_F) (nm : Nat → Nat → Prop) (X : pt → Prop) (t : pt) : Prop := X t ∨ ∃ P : pt → Prop, P t ∧ ∀ u, P u → ∃ l, cd F G nm u l ∧ ∀ v ∈ l, P v ∨ X v
theorem sg_x {F G : wq_F} {nm : Nat → Nat → Prop} {X : pt → Prop} {t : pt} (h : X t) : sg F G nm X t := Or.inl h
/-- a loop: its head may be come back to -/
theorem sg_loop {F G : wq_F} {nm : Nat → Nat → Prop} {X : pt → Prop} {t : pt} {l : List pt} (h : cd F G nm t l) (hl : ∀ v ∈ l, sg F G nm (fun u => X u ∨ u = t) v) : sg F G nm X t := by
  refine Or.inr ⟨fun u => u = t ∨ ∃ Q : pt → Prop, Q u ∧ ∀ a, Q a → ∃ l, cd F G nm a l ∧ ∀ v ∈ l, Q v ∨ (X v ∨ v = t), Or.inl rfl, fun u hu => ?_⟩
  rcases hu with e | ⟨Q, q1, q2⟩
  · subst e
    refine ⟨l, h, fun v hv => ?_⟩
    rcases hl v hv with (a | a) | ⟨Q, a, b⟩
    · exact Or.inr a
    · exact Or.inl (Or.inl a)
    · exact Or.inl (Or.inr ⟨Q, a, b⟩)
  · obtain ⟨l, c1, c2⟩ := q2 u q1
    refine ⟨l, c1, fun v hv => ?_⟩
    rcases c2 v hv with a | a | a
    · exact Or.inl (Or.inr ⟨Q, a, q2⟩)
    · exact Or.inr a
    · exact Or.inl (Or.inl a)
theorem sg_mono {F G : wq_F} {nm : Nat → Nat → Prop} {X Y : pt → Prop} {t : pt} (hx : ∀ u, X u → sg F G nm Y u) (h : sg F G nm X t) : sg F G nm Y t := by
  rcases h with h | ⟨P, p1, p2⟩
  · exact hx t h
  · refine Or.inr ⟨fun u => P u ∨ ∃ Q : pt → Prop, Q u ∧ ∀ a, Q a → ∃ l, cd F G nm a l ∧ ∀ v ∈ l, Q v ∨ Y v, Or.inl p1, fun u hu => ?_⟩
    rcases hu with hu | ⟨Q, q1, q2⟩
    · obtain ⟨l, c1, c2⟩ := p2 u hu
      refine ⟨l, c1, fun v hv => ?_⟩
      rcases c2 v hv with a | a
      · exact Or.inl (Or.inl a)
      · rcases hx v a with b | b
        · exact Or.inr b
        · exact Or.inl (Or.inr b)
    · obtain ⟨l, c1, c2⟩ := q2 u q1
      refine ⟨l, c1, fun v hv => ?_⟩
      rcases c2 v hv with a | a
      · exact Or.inl (Or.inr ⟨Q, a, q2⟩)
      · exact Or.inr a
theorem sg_s {F G : wq_F} {nm : Nat → Nat → Prop} {X : pt → Prop} {t : pt} {l : List pt} (h : cd F G nm t l) (hl : ∀ v ∈ l, sg F G nm X v) : sg F G nm X t := sg_loop h (fun v hv => sg_mono (fun u hu => sg_x (Or.inl hu)) (hl v hv))
/-- one place to go on -/
theorem sg_1 {F G : wq_F} {nm : Nat → Nat → Prop} {X : pt → Prop} {f p q k : Nat} {c : List Nat} {u : pt} (h : cs1 F G nm k f p q c [u]) (hl : sg F G nm X u) : sg F G nm X (f, p, q, c) := sg_s (Or.inl ⟨k, h⟩) (fun v hv => by
  rw [List.mem_singleton.mp hv]
  exact hl)
theorem sg_2 {F G : wq_F} {nm : Nat → Nat → Prop} {X : pt → Prop} {f p q k : Nat} {c : List Nat} {u : pt} (h : cs2 F G k f p q c [u]) (hl : sg F G nm X u) : sg F G nm X (f, p, q, c) := sg_s (Or.inr ⟨k, h⟩) (fun v hv => by
  rw [List.mem_singleton.mp hv]
  exact hl)
/-- later memories keep what was written: code, whole numbers, functions -/
def ag (F H : wq_F) (w w' nw nw' m m' f : Nat) : Prop := (∀ c p, 20 ≤ c → c ≤ 23 → w ≤ p → p < w' → H c p = F c p) ∧ (∀ k, nw ≤ k → k < nw' → H 24 k = F 24 k) ∧ (∀ g, m ≤ g → g < m' → (H 12 g = F 12 g ∧ H 13 g = F 13 g ∧ H 15 g = F 15 g ∧ H 16 g = F 16 g) ∧ ∀ k, k < 30 → H 18 (30 * g + k) = F 18 (30 * g + k) ∧ H 19 (30 * g + k) = F 19 (30 * g + k)) ∧ F 15 f ≤ H 15 f
def bg (G H : wq_F) (s s' ns ns' m m' : Nat) : Prop := (∀ c p, 12 ≤ c → c ≤ 15 → s ≤ p → p < s' → H c p = G c p) ∧ (∀ k, ns ≤ k → k < ns' → H 16 k = G 16 k) ∧ (∀ g, m ≤ g → g < m' → (H 17 g = G 17 g ∧ H 18 g = G 18 g ∧ H 20 g = G 20 g ∧ H 22 g = G 22 g) ∧ ∀ k, k < 30 → H 23 (30 * g + k) = G 23 (30 * g + k))
/-- what was written before stays: code below w, whole numbers, all functions but those that are open -/
def ka (F H : wq_F) (w nw m : Nat) (lv : Nat → Prop) : Prop := (∀ c p, 20 ≤ c → c ≤ 23 → p < w → H c p = F c p) ∧ (∀ k, k < nw → H 24 k = F 24 k) ∧ (∀ g, g < m → ¬ lv g → (H 12 g = F 12 g ∧ H 13 g = F 13 g ∧ H 15 g = F 15 g ∧ H 16 g = F 16 g) ∧ ∀ k, k < 30 → H 18 (30 * g + k) = F 18 (30 * g + k) ∧ H 19 (30 * g + k) = F 19 (30 * g + k)) ∧ ∀ g, g < m → F 15 g ≤ H 15 g ∧ H 12 g = F 12 g ∧ H 13 g = F 13 g
def kb (G H : wq_F) (s ns m : Nat) (lv : Nat → Prop) : Prop := (∀ c p, 12 ≤ c → c ≤ 15 → p < s → H c p = G c p) ∧ (∀ k, k < ns → H 16 k = G 16 k) ∧ (∀ g, g < m → ¬ lv g → (H 17 g = G 17 g ∧ H 18 g = G 18 g ∧ H 20 g = G 20 g ∧ H 22 g = G 22 g) ∧ ∀ k, k < 30 → H 23 (30 * g + k) = G 23 (30 * g + k)) ∧ ∀ g, g < m → H 17 g = G 17 g ∧ H 18 g = G 18 g ∧ G 19 g ≤ H 19 g
/-- the first part of what was written, read in a later memory -/
theorem ag_1 {A F H : wq_F} {w v w' nw nv nw' m k m' f : Nat} {lv : Nat → Prop} (h : ag F H w w' nw nw' m m' f) (hk : ka A F v nv k lv) (h1 : v ≤ w') (h2 : nv ≤ nw') (h3 : k ≤ m') (hl : ∀ g, m ≤ g → ¬ lv g) (hf : f < k) : ag A H w v nw nv m k f := ⟨fun c p a b d e => (h.1 c p a b d (by omega)).trans (hk.1 c p a b e), fun j a b => (h.2.1 j a (by omega)).trans (hk.2.1 j b), fun g a b => by
  obtain ⟨⟨a1, a2, a3, a4⟩, a5⟩ := h.2.2.1 g a (by omega)
  obtain ⟨⟨b1, b2, b3, b4⟩, b5⟩ := hk.2.2.1 g b (hl g a)
  exact ⟨⟨a1.trans b1, a2.trans b2, a3.trans b3, a4.trans b4⟩, fun j hj => ⟨(a5 j hj).1.trans (b5 j hj).1, (a5 j hj).2.trans (b5 j hj).2⟩⟩, Nat.le_trans (hk.2.2.2 f hf).1 h.2.2.2⟩
theorem ag_2 {F H : wq_F} {w v w' nw nv nw' m k m' f : Nat} (h : ag F H w w' nw nw' m m' f) (h1 : w ≤ v) (h2 : nw ≤ nv) (h3 : m ≤ k) : ag F H v w' nv nw' k m' f := ⟨fun c p a b d e => h.1 c p a b (by omega) e, fun j a b => h.2.1 j (by omega) b, fun g a b => h.2.2.1 g (by omega) b, h.2.2.2⟩
theorem bg_1 {A F H : wq_F} {w v w' nw nv nw' m k m' : Nat} {lv : Nat → Prop} (h : bg F H w w' nw nw' m m') (hk : kb A F v nv k lv) (h1 : v ≤ w') (h2 : nv ≤ nw') (h3 : k ≤ m') (hl : ∀ g, m ≤ g → ¬ lv g) : bg A H w v nw nv m k := ⟨fun c p a b d e => (h.1 c p a b d (by omega)).trans (hk.1 c p a b e), fun j a b => (h.2.1 j a (by omega)).trans (hk.2.1 j b), fun g a b => by
  obtain ⟨⟨a1, a2, a3, a4⟩, a5⟩ := h.2.2 g a (by omega)
  obtain ⟨⟨b1, b2, b3, b4⟩, b5⟩ := hk.2.2.1 g b (hl g a)
  exact ⟨⟨a1.trans b1, a2.trans b2, a3.trans b3, a4.trans b4⟩, fun j hj => (a5 j hj).trans (b5 j hj)⟩⟩
theorem bg_2 {F H : wq_F} {w v w' nw nv nw' m k m' : Nat} (h : bg F H w w' nw nw' m m') (h1 : w ≤ v) (h2 : nw ≤ nv) (h3 : m ≤ k) : bg F H v w' nv nw' k m' := ⟨fun c p a b d e => h.1 c p a b (by omega) e, fun j a b => h.2.1 j (by omega) b, fun g a b => h.2.2 g (by omega) b⟩
theorem ka_trans {A B C : wq_F} {w v nw nv m k : Nat} {lv : Nat → Prop} (h : ka A B w nw m lv) (g : ka B C v nv k lv) (h1 : w ≤ v) (h2 : nw ≤ nv) (h3 : m ≤ k) : ka A C w nw m lv := ⟨fun c p a b d => (g.1 c p a b (by omega)).trans (h.1 c p a b d), fun j a => (g.2.1 j (by omega)).trans (h.2.1 j a), fun x a b => by
  obtain ⟨⟨a1, a2, a3, a4⟩, a5⟩ := h.2.2.1 x a b
  obtain ⟨⟨b1, b2, b3, b4⟩, b5⟩ := g.2.2.1 x (by omega) b
  exact ⟨⟨b1.trans a1, b2.trans a2, b3.trans a3, b4.trans a4⟩, fun j hj => ⟨(b5 j hj).1.trans (a5 j hj).1, (b5 j hj).2.trans (a5 j hj).2⟩⟩, fun x a => ⟨Nat.le_trans (h.2.2.2 x a).1 (g.2.2.2 x (by omega)).1, (g.2.2.2 x (by omega)).2.1.trans (h.2.2.2 x a).2.1, (g.2.2.2 x (by omega)).2.2.trans (h.2.2.2 x a).2.2⟩⟩
theorem kb_trans {A B C : wq_F} {w v nw nv m k : Nat} {lv : Nat → Prop} (h : kb A B w nw m lv) (g : kb B C v nv k lv) (h1 : w ≤ v) (h2 : nw ≤ nv) (h3 : m ≤ k) : kb A C w nw m lv := ⟨fun c p a b d => (g.1 c p a b (by omega)).trans (h.1 c p a b d), fun j a => (g.2.1 j (by omega)).trans (h.2.1 j a), fun x a b => by
  obtain ⟨⟨a1, a2, a3, a4⟩, a5⟩ := h.2.2.1 x a b
  obtain ⟨⟨b1, b2, b3, b4⟩, b5⟩ := g.2.2.1 x (by omega) b
  exact ⟨⟨b1.trans a1, b2.trans a2, b3.trans a3, b4.trans a4⟩, fun j hj => (b5 j hj).trans (a5 j hj)⟩, fun x a => ⟨(g.2.2.2 x (by omega)).1.trans (h.2.2.2 x a).1, (g.2.2.2 x (by omega)).2.1.trans (h.2.2.2 x a).2.1, Nat.le_trans (h.2.2.2 x a).2.2 (g.2.2.2 x (by omega)).2.2⟩⟩
theorem ka_x {F H : wq_F} {w nw m : Nat} {lv : Nat → Prop} (h : ∀ c j, (12 ≤ c ∧ c ≤ 19) ∨ (20 ≤ c ∧ c ≤ 23 ∧ j < w) ∨ (c = 24 ∧ j < nw) → H c j = F c j) : ka F H w nw m lv := ⟨fun c p a b d => h c p (by omega), fun k a => h 24 k (by omega), fun g a b => ⟨⟨h 12 g (by omega), h 13 g (by omega), h 15 g (by omega), h 16 g (by omega)⟩, fun k hk => ⟨h 18 _ (by omega), h 19 _ (by omega)⟩⟩, fun g a => ⟨by rw [h 15 g (by omega)]; exact Nat.le_refl _, h 12 g (by omega), h 13 g (by omega)⟩⟩
theorem kb_x {F H : wq_F} {w nw m : Nat} {lv : Nat → Prop} (h : ∀ c j, (17 ≤ c ∧ c ≤ 23) ∨ (12 ≤ c ∧ c ≤ 15 ∧ j < w) ∨ (c = 16 ∧ j < nw) → H c j = F c j) : kb F H w nw m lv := ⟨fun c p a b d => h c p (by omega), fun k a => h 16 k (by omega), fun g a b => ⟨⟨h 17 g (by omega), h 18 g (by omega), h 20 g (by omega), h 22 g (by omega)⟩, fun k hk => h 23 _ (by omega)⟩, fun g a => ⟨h 17 g (by omega), h 18 g (by omega), Nat.le_of_eq (h 19 g (by omega)).symm⟩⟩
