/-! ===== 99m: runs that end; the stopped class goes on (wip/whole2/law99m.py) ===== -/
/-- it ends, so -/
def wok (m : Option (Nat × wq_F)) (A : Nat → wq_F → Prop) : Prop := ∃ r K, m = some (r, K) ∧ A r K
theorem wok_b {m : Option (Nat × wq_F)} {f : Nat × wq_F → Option (Nat × wq_F)} {A C : Nat → wq_F → Prop} (h : wok m A) (g : ∀ r K, A r K → wok (f (r, K)) C) : wok (m.bind f) C := by
  obtain ⟨r, K, e, a⟩ := h
  obtain ⟨r2, K2, e2, a2⟩ := g r K a
  exact ⟨r2, K2, by rw [e, od_bS, e2], a2⟩
theorem wok_r {r : Nat} {K : wq_F} {A : Nat → wq_F → Prop} (h : A r K) : wok (some (r, K)) A := ⟨r, K, rfl, h⟩
theorem wok_m {m : Option (Nat × wq_F)} {A C : Nat → wq_F → Prop} (h : wok m A) (g : ∀ r K, A r K → C r K) : wok m C := by
  obtain ⟨r, K, e, a⟩ := h
  exact ⟨r, K, e, g r K a⟩
theorem wok_e {m : Option (Nat × wq_F)} {r : Nat} {K : wq_F} {A : Nat → wq_F → Prop} (e : m = some (r, K)) (h : A r K) : wok m A := ⟨r, K, e, h⟩
theorem wok_l {v : Nat} {f : Nat → Option (Nat × wq_F)} {A : Nat → wq_F → Prop} (h : wok (f v) A) : wok (od_let v f) A := h
theorem wok_u {F : wq_F} {c i v : Nat} {f : wq_F → Option (Nat × wq_F)} {A : Nat → wq_F → Prop} (h : wok (f (wq_up F c i v)) A) : wok (od_up F c i v f) A := h
theorem wok_g {c : Prop} [Decidable c] {m : Option (Nat × wq_F)} {A : Nat → wq_F → Prop} (hc : c) (h : wok m A) : wok (od_g c m) A := by
  rw [od_g1 hc]
  exact h
theorem wok_t {c : Prop} [Decidable c] {a b : Option (Nat × wq_F)} {A : Nat → wq_F → Prop} (hc : c) (h : wok a A) : wok (if c then a else b) A := by
  rw [if_pos hc]
  exact h
theorem wok_f {c : Prop} [Decidable c] {a b : Option (Nat × wq_F)} {A : Nat → wq_F → Prop} (hc : ¬ c) (h : wok b A) : wok (if c then a else b) A := by
  rw [if_neg hc]
  exact h
theorem wok_i {c : Prop} [Decidable c] {a b : Option (Nat × wq_F)} {A : Nat → wq_F → Prop} (h1 : c → wok a A) (h2 : ¬ c → wok b A) : wok (if c then a else b) A := by
  by_cases q : c
  · rw [if_pos q]
    exact h1 q
  · rw [if_neg q]
    exact h2 q
theorem okj_n {v : Nat} (h : 2147483648 ≤ v ∧ v < 4294967296) : okj v := Or.inr h
theorem okj_p {v : Nat} (h : v < 10000) : okj v := Or.inl h
/-! the stopped class's steps -/
theorem sx_ty {T : Nat → Nat} {n O : Nat} {G0 G : wq_F} {c0 : List (List Nat)} {k p N B : Nat} (h : sx T n G0 c0 O k p N B G) : G 57 4 = 5 := h.1.1
theorem sx_ne {t : Nat} {T : Nat → Nat} {n O : Nat} {G0 G : wq_F} {c0 : List (List Nat)} {k p N B : Nat} (h : sx T n G0 c0 O k p N B G) (ht : ¬ 5 = t) : ¬ G 57 4 = t := fun z => ht (h.1.1.symm.trans z)
theorem sx_lv {T : Nat → Nat} {n O : Nat} {G0 G : wq_F} {c0 : List (List Nat)} {k p N B : Nat} (h : sx T n G0 c0 O k p N B G) : ∃ l, G 59 8 = l ∧ l < 24 ∧ l + 1 = N := ⟨N - 1, by have := h.2.2.1; omega, by have := h.2.2.1; omega, by have := h.2.2.1; omega⟩
theorem sx_77 {nn : Nat} {T : Nat → Nat} {n O : Nat} {G0 G : wq_F} {c0 : List (List Nat)} {k p N B : Nat} (h : sx T n G0 c0 O k p N B G) : wok (dk_77 nn G) (fun r K => sx T n G0 c0 O k p N B K) := wok_e (px_stopped h.1) h
theorem sx_109 {a : Nat} {T : Nat → Nat} {n O : Nat} {G0 G : wq_F} {c0 : List (List Nat)} {k p N B : Nat} (h : sx T n G0 c0 O k p N B G) : wok (dk_109 G a) (fun r K => sx T n G0 c0 O k p N B K) := wok_e (px_refused h.1) h
theorem sx_110 {nn t : Nat} {T : Nat → Nat} {n O : Nat} {G0 G : wq_F} {c0 : List (List Nat)} {k p N B : Nat} (h : sx T n G0 c0 O k p N B G) (ht : ¬ t = 5) : wok (dk_110 nn G t) (fun r K => sx T n G0 c0 O k p N B K) := wok_e (px_expect_stopped h.1 ht) h
theorem sx_111 {nn t : Nat} {T : Nat → Nat} {n O : Nat} {G0 G : wq_F} {c0 : List (List Nat)} {k p N B : Nat} (h : sx T n G0 c0 O k p N B G) (ht : ¬ 5 = t) : wok (dk_111 nn G t) (fun r K => r = 0 ∧ sx T n G0 c0 O k p N B K) := by
  unfold dk_111
  refine wok_f (sx_ne h ht) ?_
  exact wok_t rfl (wok_r ⟨rfl, h⟩)
theorem sx_79 {T : Nat → Nat} {n O : Nat} {G0 G : wq_F} {c0 : List (List Nat)} {k p N B : Nat} (h : sx T n G0 c0 O k p N B G) : wok (dk_79 G) (fun r K => r = 0 ∧ sx T n G0 c0 O k p N B K) := by
  refine wok_e (dkS_79 (G := G)) ⟨?_, h⟩
  rw [sx_ty h]
  rfl
theorem sx_114 {T : Nat → Nat} {n O : Nat} {G0 G : wq_F} {c0 : List (List Nat)} {k p N B : Nat} (h : sx T n G0 c0 O k p N B G) : wok (dk_114 G) (fun r K => r = 0 ∧ sx T n G0 c0 O k p N B K) := by
  refine wok_e (dkS_114 (G := G)) ⟨?_, h⟩
  rw [sx_ty h]
  rfl
theorem sx_145 {T : Nat → Nat} {n O : Nat} {G0 G : wq_F} {c0 : List (List Nat)} {k p N B : Nat} (h : sx T n G0 c0 O k p N B G) : wok (dk_145 G) (fun r K => r = 0 ∧ sx T n G0 c0 O k p N B K) := by
  refine wok_e (dkS_145 (G := G)) ⟨?_, h⟩
  rw [sx_ty h]
  rfl
/-- an instruction written -/
theorem sx_em {op a b ln : Nat} {T : Nat → Nat} {n O : Nat} {G0 G : wq_F} {c0 : List (List Nat)} {k p N B : Nat} (h : sx T n G0 c0 O k p N B G) (hb : okj b) : sx T n G0 c0 O k p N (B + 1) (pg_em G op a b ln) := by
  obtain ⟨⟨p1, p2, p3, p4, p5⟩, hst, ⟨a1, a2, a3, a4, a5, a6, a7, a8⟩, b1, b2⟩ := h
  have e : ∀ c j, ¬ (12 ≤ c ∧ c ≤ 15) → ¬ (c = 11 ∧ j = 4) → pg_em G op a b ln c j = G c j := fun c j h1 h2 => pg_em_ne (by omega) h2
  refine ⟨⟨(e 57 4 (by decide) (by decide)).trans p1, (e 56 4 (by decide) (by decide)).trans p2, p3, (e 56 5 (by decide) (by decide)).trans p4, (e 56 6 (by decide) (by decide)).trans p5⟩, sx_st_x hst (fun c j a => e c j (by omega) (by omega)), ⟨?_, ?_, ?_, ?_, a5, a6, ?_, ?_⟩, fun j hj => ?_, fun l hl => ⟨?_, ?_⟩⟩
  · rw [pg_em_at.2.2.2.2]; omega
  · rw [e 11 6 (by decide) (by decide)]; exact a2
  · rw [e 11 14 (by decide) (by decide)]; exact a3
  · rw [e 59 8 (by decide) (by decide)]; exact a4
  · rw [e 59 3 (by decide) (by decide)]; exact a7
  · rw [e 56 11 (by decide) (by decide)]; exact a8
  · by_cases q : j = G 11 4
    · rw [q, pg_em_at.2.2.1]
      exact hb
    · rw [pg_em_ne (by omega) (by omega)]
      exact b1 j hj
  · rw [e 65 l (by omega) (by omega)]; exact (b2 l hl).1
  · rw [e 63 l (by omega) (by omega)]; exact (b2 l hl).2
theorem sx_78 {op a b ln : Nat} {T : Nat → Nat} {n O : Nat} {G0 G : wq_F} {c0 : List (List Nat)} {k p N B : Nat} (h : sx T n G0 c0 O k p N B G) (hB : B < 10000) (hb : okj b) : wok (dk_78 G op a b ln) (fun r K => r < 10000 ∧ sx T n G0 c0 O k p N (B + 1) K) := by
  have hs := h.2.2.1.1
  exact wok_e (dkS_78 (by omega)) ⟨by omega, sx_em h hb⟩
theorem sx_up {c j v : Nat} {T : Nat → Nat} {n O : Nat} {G0 G : wq_F} {c0 : List (List Nat)} {k p N B : Nat} (h : sx T n G0 c0 O k p N B G) (hc : ¬ ((c < 12 ∧ ¬ c = 10) ∨ c = 14 ∨ (56 ≤ c ∧ c ≤ 59 ∧ ¬ c = 58) ∨ c = 63 ∨ c = 65) ∨ (c = 56 ∧ 7 ≤ j ∧ j ≤ 9) ∨ (c = 59 ∧ 9 < j)) : sx T n G0 c0 O k p N B (wq_up G c j v) := sx_x h (fun d i a b e => wq_up_ne (fun z => by omega))
theorem sx_162 {v : Nat} {T : Nat → Nat} {n O : Nat} {G0 G : wq_F} {c0 : List (List Nat)} {k p N B : Nat} (h : sx T n G0 c0 O k p N B G) : wok (dk_162 G v) (fun r K => sx T n G0 c0 O k p N B K) := by
  obtain ⟨l, h1, h2, _⟩ := sx_lv h
  exact wok_e (dkS_162 h1 h2) (sx_up h (by omega))
theorem sx_163 {v : Nat} {T : Nat → Nat} {n O : Nat} {G0 G : wq_F} {c0 : List (List Nat)} {k p N B : Nat} (h : sx T n G0 c0 O k p N B G) : wok (dk_163 G v) (fun r K => sx T n G0 c0 O k p N B K) := by
  obtain ⟨l, h1, h2, _⟩ := sx_lv h
  exact wok_e (dkS_163 h1 h2) (sx_up h (by omega))
theorem sx_84 {T : Nat → Nat} {n O : Nat} {G0 G : wq_F} {c0 : List (List Nat)} {k p N B : Nat} (h : sx T n G0 c0 O k p N B G) : wok (dk_84 G) (fun r K => sx T n G0 c0 O k p N B K) := by
  obtain ⟨l, h1, h2, _⟩ := sx_lv h
  exact wok_e (dkS_84 h1 h2) h
theorem sx_164 {T : Nat → Nat} {n O : Nat} {G0 G : wq_F} {c0 : List (List Nat)} {k p N B : Nat} (h : sx T n G0 c0 O k p N B G) : wok (dk_164 G) (fun r K => okj r ∧ sx T n G0 c0 O k p N B K) := by
  obtain ⟨l, h1, h2, h3⟩ := sx_lv h
  exact wok_e (dkS_164 h1 h2) ⟨(h.2.2.2.2 l (by omega)).1, h⟩
theorem sx_165 {v : Nat} {T : Nat → Nat} {n O : Nat} {G0 G : wq_F} {c0 : List (List Nat)} {k p N B : Nat} (h : sx T n G0 c0 O k p N B G) (hv : okj v) : wok (dk_165 G v) (fun r K => sx T n G0 c0 O k p N B K) := by
  obtain ⟨l, h1, h2, h3⟩ := sx_lv h
  refine wok_e (dkS_165 h1 h2) ?_
  obtain ⟨⟨p1, p2, p3, p4, p5⟩, hst, ⟨a1, a2, a3, a4, a5, a6, a7, a8⟩, b1, b2⟩ := h
  have e : ∀ c j, ¬ c = 65 → wq_up G 65 l v c j = G c j := fun c j h1 => wq_up_cell h1
  refine ⟨⟨(e 57 4 (by decide)).trans p1, (e 56 4 (by decide)).trans p2, p3, (e 56 5 (by decide)).trans p4, (e 56 6 (by decide)).trans p5⟩, sx_st_x hst (fun c j a => e c j (by omega)), ⟨by rw [e 11 4 (by decide)]; exact a1, by rw [e 11 6 (by decide)]; exact a2, by rw [e 11 14 (by decide)]; exact a3, by rw [e 59 8 (by decide)]; exact a4, a5, a6, by rw [e 59 3 (by decide)]; exact a7, by rw [e 56 11 (by decide)]; exact a8⟩, fun j hj => by rw [e 14 j (by omega)]; exact b1 j hj, fun m hm => ⟨?_, by rw [e 63 m (by omega)]; exact (b2 m hm).2⟩⟩
  by_cases q : m = l
  · rw [q, wq_up_same]
    exact hv
  · rw [wq_up_at q]
    exact (b2 m hm).1
theorem sx_112 {op a ln by' : Nat} {T : Nat → Nat} {n O : Nat} {G0 G : wq_F} {c0 : List (List Nat)} {k p N B : Nat} (h : sx T n G0 c0 O k p N B G) (hB : B < 10000) : wok (dk_112 G op a ln by') (fun r K => sx T n G0 c0 O k p N (B + 1) K) := by
  unfold dk_112
  refine wok_b (sx_78 h hB (okj_p (by decide))) fun r K h => ?_
  exact wok_b (sx_163 h.2) fun r K h => wok_r h
theorem sx_113 {a : Nat} {T : Nat → Nat} {n O : Nat} {G0 G : wq_F} {c0 : List (List Nat)} {k p N B : Nat} (h : sx T n G0 c0 O k p N B G) (hB : B < 10000) : wok (dk_113 G a) (fun r K => sx T n G0 c0 O k p N (B + 1) K) := by
  unfold dk_113
  refine wok_b (sx_78 h hB (okj_p (by decide))) fun r K h => ?_
  exact wok_b (sx_162 h.2) fun r K h => wok_r h
theorem sx_132 {a : Nat} {T : Nat → Nat} {n O : Nat} {G0 G : wq_F} {c0 : List (List Nat)} {k p N B : Nat} (h : sx T n G0 c0 O k p N B G) (hB : B < 10000) : wok (dk_132 G a) (fun r K => sx T n G0 c0 O k p N (B + 1) K) := by
  unfold dk_132
  refine wok_b (sx_84 h) fun r K h => ?_
  refine wok_i (fun _ => wok_r (sx_le h (by omega))) (fun _ => ?_)
  exact wok_b (sx_113 h hB) fun r K h => wok_r h
/-- jumps led here -/
theorem sx_159 {nn j : Nat} {T : Nat → Nat} {n O : Nat} {G0 G : wq_F} {c0 : List (List Nat)} {k p N B : Nat} (h : sx T n G0 c0 O k p N B G) (hB : B < 10000) (hj : okj j) (hn : 10000 < nn) : wok (dk_159 nn G j) (fun r K => sx T n G0 c0 O k p N B K) := by
  have hs := h.2.2.1.1
  obtain ⟨K, d1, d2, d3⟩ := dkA_159 (nn := nn) (s := G 11 4) (by omega) nn j 0 G hj h.2.2.2.1 (by omega) (by omega) rfl
  refine wok_e (by unfold dk_159; exact d1) ?_
  obtain ⟨⟨p1, p2, p3, p4, p5⟩, hst, ⟨a1, a2, a3, a4, a5, a6, a7, a8⟩, b1, b2⟩ := h
  have e : ∀ c j, ¬ c = 14 → K c j = G c j := d3
  exact ⟨⟨(e 57 4 (by decide)).trans p1, (e 56 4 (by decide)).trans p2, p3, (e 56 5 (by decide)).trans p4, (e 56 6 (by decide)).trans p5⟩, sx_st_x hst (fun c j a => e c j (by omega)), ⟨by rw [e 11 4 (by decide)]; exact a1, by rw [e 11 6 (by decide)]; exact a2, by rw [e 11 14 (by decide)]; exact a3, by rw [e 59 8 (by decide)]; exact a4, a5, a6, by rw [e 59 3 (by decide)]; exact a7, by rw [e 56 11 (by decide)]; exact a8⟩, d2, fun m hm => ⟨by rw [e 65 m (by decide)]; exact (b2 m hm).1, by rw [e 63 m (by decide)]; exact (b2 m hm).2⟩⟩
theorem sx_120 {nn a o : Nat} {T : Nat → Nat} {n O : Nat} {G0 G : wq_F} {c0 : List (List Nat)} {k p N B : Nat} (h : sx T n G0 c0 O k p N B G) (hB : B < 10000) (ho : okj o) (hn : 10000 < nn) : wok (dk_120 nn G a o) (fun r K => sx T n G0 c0 O k p N (B + 1) K) := by
  unfold dk_120
  refine wok_b (sx_164 h) fun r K h => ?_
  refine wok_b (sx_159 h.2 hB h.1 hn) fun r K h => ?_
  refine wok_b (sx_165 h ho) fun r K h => ?_
  exact wok_b (sx_113 h hB) fun r K h => wok_r h
theorem sx_124 {T : Nat → Nat} {n O : Nat} {G0 G : wq_F} {c0 : List (List Nat)} {k p N B : Nat} (h : sx T n G0 c0 O k p N B G) : wok (dk_124 G) (fun r K => sx T n G0 c0 O k p N B K) := by
  unfold dk_124
  refine wok_f (sx_ne h (by decide)) ?_
  exact wok_b (sx_109 h) fun r K h => wok_r h
theorem sx_125 {nn : Nat} {T : Nat → Nat} {n O : Nat} {G0 G : wq_F} {c0 : List (List Nat)} {k p N B : Nat} (h : sx T n G0 c0 O k p N B G) (hn : 10000 < nn) : wok (dk_125 nn G) (fun r K => sx T n G0 c0 O k p N B K) := by
  unfold dk_125
  obtain ⟨m, rfl⟩ : ∃ m, nn = m + 1 := ⟨nn - 1, by omega⟩
  show wok (dk_125_2b (m + 1) (dk_125_2 (m + 1) m) G 0) _
  unfold dk_125_2b
  refine wok_f (by decide) ?_
  exact wok_f (sx_ne h (by decide)) (wok_r h)
theorem sx_129 {r a w ln : Nat} {T : Nat → Nat} {n O : Nat} {G0 G : wq_F} {c0 : List (List Nat)} {k p N B : Nat} (h : sx T n G0 c0 O k p N B G) (hB : B < 10000) (hw : w < 10000) : wok (dk_129 G r a w ln) (fun r K => sx T n G0 c0 O k p N (B + 1) K) := by
  have h26 : wok (dk_129_26 G a w ln) (fun r K => sx T n G0 c0 O k p N (B + 1) K) := by
    unfold dk_129_26
    refine wok_b (sx_78 h hB (okj_p hw)) fun r K h => ?_
    exact wok_b (sx_162 h.2) fun r K h => wok_r h
  have h12 : ∀ x, wok (dk_129_12 G r a w ln x) (fun r K => sx T n G0 c0 O k p N (B + 1) K) := fun x => by
    unfold dk_129_12
    refine wok_i (fun _ => ?_) (fun _ => h26)
    refine wok_i (fun _ => ?_) (fun _ => h26)
    exact wok_b (sx_162 h) fun r K h => wok_r (sx_le h (by omega))
  unfold dk_129
  exact wok_i (fun _ => h12 _) (fun _ => h12 _)
theorem sx_133 {nn : Nat} {T : Nat → Nat} {n O : Nat} {G0 G : wq_F} {c0 : List (List Nat)} {k p N B : Nat} (h : sx T n G0 c0 O k p N B G) : wok (dk_133 nn G) (fun r K => sx T n G0 c0 O k p N B K) := by
  unfold dk_133
  refine wok_f (sx_ne h (by decide)) ?_
  exact wok_b (sx_109 h) fun r K h => wok_r h
theorem sx_136 {T : Nat → Nat} {n O : Nat} {G0 G : wq_F} {c0 : List (List Nat)} {k p N B : Nat} (h : sx T n G0 c0 O k p N B G) (hB : B < 10000) : wok (dk_136 G) (fun r K => sx T n G0 c0 O k p N (B + 1) K) := by
  unfold dk_136
  refine wok_i (fun _ => ?_) (fun _ => ?_)
  · refine wok_b (sx_112 h hB) fun r K h => ?_
    exact wok_u (wok_r (sx_up h (by omega)))
  · refine wok_i (fun _ => ?_) (fun _ => ?_)
    · exact wok_u (wok_r (sx_le (sx_up h (by omega)) (by omega)))
    · refine wok_b (sx_112 h hB) fun r K h => ?_
      exact wok_u (wok_r (sx_up h (by omega)))
theorem sx_135 {T : Nat → Nat} {n O : Nat} {G0 G : wq_F} {c0 : List (List Nat)} {k p N B : Nat} (h : sx T n G0 c0 O k p N B G) : wok (dk_135 G) (fun r K => sx T n G0 c0 O k p N B K) := by
  unfold dk_135
  refine wok_f (sx_ne h (by decide)) ?_
  exact wok_b (sx_109 h) fun r K h => wok_r h
theorem sx_134 {nn : Nat} {T : Nat → Nat} {n O : Nat} {G0 G : wq_F} {c0 : List (List Nat)} {k p N B : Nat} (h : sx T n G0 c0 O k p N B G) (hB : B < 10000) : wok (dk_134 nn G) (fun r K => sx T n G0 c0 O k p N (B + 1) K) := by
  unfold dk_134
  refine wok_b (sx_136 h hB) fun r K h => ?_
  refine wok_b (sx_77 h) fun r K h => ?_
  refine wok_b (sx_135 h) fun r K h => ?_
  refine wok_b (sx_77 h) fun r K h => ?_
  refine wok_u ?_
  refine wok_b (sx_84 (sx_up h (by omega))) fun r K h => ?_
  refine wok_l (wok_u (wok_u (wok_r ?_)))
  exact sx_up (sx_up h (by omega)) (by omega)
theorem sx_142 {T : Nat → Nat} {n O : Nat} {G0 G : wq_F} {c0 : List (List Nat)} {k p N B : Nat} (h : sx T n G0 c0 O k p N B G) : wok (dk_142 G) (fun r K => sx T n G0 c0 O k p N B K) := by
  unfold dk_142
  refine wok_f (sx_ne h (by decide)) (wok_f (sx_ne h (by decide)) ?_)
  unfold dk_142_29
  refine wok_t rfl ?_
  exact wok_b (sx_109 h) fun r K h => wok_r h
theorem sx_143 {a b d : Nat} {T : Nat → Nat} {n O : Nat} {G0 G : wq_F} {c0 : List (List Nat)} {k p N B : Nat} (h : sx T n G0 c0 O k p N B G) (hB : B < 10000) : wok (dk_143 G a b d) (fun r K => sx T n G0 c0 O k p N (B + 1) K) := by
  unfold dk_143
  refine wok_i (fun _ => ?_) (fun _ => ?_)
  · exact wok_b (sx_112 h hB) fun r K h => wok_r h
  · exact wok_b (sx_112 h hB) fun r K h => wok_r h
theorem sx_152 {nn : Nat} {T : Nat → Nat} {n O : Nat} {G0 G : wq_F} {c0 : List (List Nat)} {k p N B : Nat} (h : sx T n G0 c0 O k p N B G) : wok (dk_152 nn G) (fun r K => sx T n G0 c0 O k p N B K) := by
  unfold dk_152
  refine wok_f (sx_ne h (by decide)) (wok_f (sx_ne h (by decide)) (wok_f (sx_ne h (by decide)) ?_))
  exact wok_b (sx_109 h) fun r K h => wok_r h
theorem sx_156 {nn a : Nat} {T : Nat → Nat} {n O : Nat} {G0 G : wq_F} {c0 : List (List Nat)} {k p N B : Nat} (h : sx T n G0 c0 O k p N B G) (hn : 10000 < nn) : wok (dk_156 nn G a) (fun r K => sx T n G0 c0 O k p N B K) := by
  unfold dk_156
  refine wok_f (sx_ne h (by decide)) ?_
  unfold dk_156_17
  refine wok_f (sx_ne h (by decide)) ?_
  obtain ⟨m, rfl⟩ : ∃ m, nn = m + 1 := ⟨nn - 1, by omega⟩
  show wok (dk_156_38b (m + 1) (dk_156_38 (m + 1) m) G a 0 0 0) _
  unfold dk_156_38b
  refine wok_f (by decide) (wok_t rfl ?_)
  unfold dk_156_117
  exact wok_t rfl (wok_r h)
theorem sx_157 {v : Nat} {T : Nat → Nat} {n O : Nat} {G0 G : wq_F} {c0 : List (List Nat)} {k p N B : Nat} (h : sx T n G0 c0 O k p N B G) : wok (dk_157 G v) (fun r K => sx T n G0 c0 O k p N B K) := by
  have h6 := h.2.2.1.2.1
  unfold dk_157
  refine wok_i (fun q => ?_) (fun _ => wok_r h)
  have q : G 11 6 < 10000 := by
    by_cases z : G 11 6 < 10000
    · exact z
    · exact absurd ((wd_slt (by omega) (by decide)).mp q) (by omega)
  refine wok_g q (wok_u (wok_u (wok_l (wok_r ?_))))
  have h2 := sx_up (c := 16) (j := G 11 6) (v := v - 18446744073709551616) h (by omega)
  obtain ⟨p1, hst, ⟨a1, a2, a3, a4, a5, a6, a7, a8⟩, b1, b2⟩ := h2
  have e : ∀ c j, ¬ (c = 11 ∧ j = 6) → wq_up (wq_up G 16 (G 11 6) (v - 18446744073709551616)) 11 6 ((wq_up G 16 (G 11 6) (v - 18446744073709551616) 11 6 + 1) % 4294967296) c j = wq_up G 16 (G 11 6) (v - 18446744073709551616) c j := fun c j hc => wq_up_ne hc
  obtain ⟨p1, p2, p3, p4, p5⟩ := p1
  refine ⟨⟨(e 57 4 (by decide)).trans p1, (e 56 4 (by decide)).trans p2, p3, (e 56 5 (by decide)).trans p4, (e 56 6 (by decide)).trans p5⟩, sx_st_x hst (fun c j a => e c j (by omega)), ⟨by rw [e 11 4 (by decide)]; exact a1, ?_, by rw [e 11 14 (by decide)]; exact a3, by rw [e 59 8 (by decide)]; exact a4, a5, a6, by rw [e 59 3 (by decide)]; exact a7, by rw [e 56 11 (by decide)]; exact a8⟩, fun j hj => by rw [e 14 j (by omega)]; exact b1 j hj, fun m hm => ⟨by rw [e 65 m (by omega)]; exact (b2 m hm).1, by rw [e 63 m (by omega)]; exact (b2 m hm).2⟩⟩
  rw [wq_up_same, wq_up_cell (by decide)]
  omega
theorem sx_158 {v : Nat} {T : Nat → Nat} {n O : Nat} {G0 G : wq_F} {c0 : List (List Nat)} {k p N B : Nat} (h : sx T n G0 c0 O k p N B G) (hv : okj v) (hB : B < 10000) : wok (dk_158 G v) (fun r K => sx T n G0 c0 O k p N B K) := by
  have hs := h.2.2.1.1
  unfold dk_158
  refine wok_i (fun q => ?_) (fun _ => wok_r h)
  refine wok_l (wok_g (by omega) (wok_u (wok_r ?_)))
  obtain ⟨⟨p1, p2, p3, p4, p5⟩, hst, ⟨a1, a2, a3, a4, a5, a6, a7, a8⟩, b1, b2⟩ := h
  have e : ∀ c j, ¬ c = 14 → wq_up G 14 ((G 11 4 + (4294967296 - 1)) % 4294967296) v c j = G c j := fun c j h1 => wq_up_cell h1
  refine ⟨⟨(e 57 4 (by decide)).trans p1, (e 56 4 (by decide)).trans p2, p3, (e 56 5 (by decide)).trans p4, (e 56 6 (by decide)).trans p5⟩, sx_st_x hst (fun c j a => e c j (by omega)), ⟨by rw [e 11 4 (by decide)]; exact a1, by rw [e 11 6 (by decide)]; exact a2, by rw [e 11 14 (by decide)]; exact a3, by rw [e 59 8 (by decide)]; exact a4, a5, a6, by rw [e 59 3 (by decide)]; exact a7, by rw [e 56 11 (by decide)]; exact a8⟩, fun j hj => ?_, fun m hm => ⟨by rw [e 65 m (by decide)]; exact (b2 m hm).1, by rw [e 63 m (by decide)]; exact (b2 m hm).2⟩⟩
  by_cases q : j = (G 11 4 + (4294967296 - 1)) % 4294967296
  · rw [q, wq_up_same]
    exact hv
  · rw [wq_up_at q]
    exact b1 j hj
/-- how many locals are known -/
theorem sx_ac {a : Nat} {T : Nat → Nat} {n O : Nat} {G0 G : wq_F} {c0 : List (List Nat)} {k p N B : Nat} (h : sx T n G0 c0 O k p N B G) (ha : a ≤ 1200) : sx T n G0 c0 O k p N B (wq_up G 59 3 a) := by
  obtain ⟨⟨p1, p2, p3, p4, p5⟩, hst, ⟨a1, a2, a3, a4, a5, a6, a7, a8⟩, b1, b2⟩ := h
  have e : ∀ c j, ¬ (c = 59 ∧ j = 3) → wq_up G 59 3 a c j = G c j := fun c j h1 => wq_up_ne h1
  exact ⟨⟨(e 57 4 (by decide)).trans p1, (e 56 4 (by decide)).trans p2, p3, (e 56 5 (by decide)).trans p4, (e 56 6 (by decide)).trans p5⟩, sx_st_x hst (fun c j a => e c j (by omega)), ⟨by rw [e 11 4 (by decide)]; exact a1, by rw [e 11 6 (by decide)]; exact a2, by rw [e 11 14 (by decide)]; exact a3, by rw [e 59 8 (by decide)]; exact a4, a5, a6, by rw [wq_up_same]; exact ha, by rw [e 56 11 (by decide)]; exact a8⟩, fun j hj => by rw [e 14 j (by omega)]; exact b1 j hj, fun m hm => ⟨by rw [e 65 m (by omega)]; exact (b2 m hm).1, by rw [e 63 m (by omega)]; exact (b2 m hm).2⟩⟩
theorem sx_168 {a : Nat} {T : Nat → Nat} {n O : Nat} {G0 G : wq_F} {c0 : List (List Nat)} {k p N B : Nat} (h : sx T n G0 c0 O k p N B G) (ha : a ≤ 1200) : wok (dk_168 G a) (fun r K => sx T n G0 c0 O k p N B K) := by
  unfold dk_168
  exact wok_u (wok_r (sx_ac h ha))
theorem sx_pt {v : Nat} {T : Nat → Nat} {n O : Nat} {G0 G : wq_F} {c0 : List (List Nat)} {k p N B : Nat} (h : sx T n G0 c0 O k p N B G) (hv : v ≤ 1320) : sx T n G0 c0 O k p N B (wq_up G 56 11 v) := by
  obtain ⟨⟨p1, p2, p3, p4, p5⟩, hst, ⟨a1, a2, a3, a4, a5, a6, a7, a8⟩, b1, b2⟩ := h
  have e : ∀ c j, ¬ (c = 56 ∧ j = 11) → wq_up G 56 11 v c j = G c j := fun c j h1 => wq_up_ne h1
  exact ⟨⟨(e 57 4 (by decide)).trans p1, (e 56 4 (by decide)).trans p2, p3, (e 56 5 (by decide)).trans p4, (e 56 6 (by decide)).trans p5⟩, sx_st_x hst (fun c j a => e c j (by omega)), ⟨by rw [e 11 4 (by decide)]; exact a1, by rw [e 11 6 (by decide)]; exact a2, by rw [e 11 14 (by decide)]; exact a3, by rw [e 59 8 (by decide)]; exact a4, a5, a6, by rw [e 59 3 (by decide)]; exact a7, by rw [wq_up_same]; exact hv⟩, fun j hj => by rw [e 14 j (by omega)]; exact b1 j hj, fun m hm => ⟨by rw [e 65 m (by omega)]; exact (b2 m hm).1, by rw [e 63 m (by omega)]; exact (b2 m hm).2⟩⟩
theorem sx_160 {T : Nat → Nat} {n O : Nat} {G0 G : wq_F} {c0 : List (List Nat)} {k p N B : Nat} (h : sx T n G0 c0 O k p (N + 1) B G) (hN : 1 ≤ N) : wok (dk_160 G) (fun r K => sx T n G0 c0 O k p N B K) := by
  obtain ⟨l, h1, h2, h3⟩ := sx_lv h
  unfold dk_160
  refine wok_g (by omega) (wok_u (wok_l (wok_u (wok_r ?_))))
  have h63 := (h.2.2.2.2 (G 59 8) (by omega)).2
  have h2 := sx_ac h h63
  have hl : wq_up G 59 3 (G 63 (G 59 8)) 59 8 = l := by rw [wq_up_at (by decide)]; exact h1
  rw [hl]
  obtain ⟨p1, hst, ⟨a1, a2, a3, a4, a5, a6, a7, a8⟩, b1, b2⟩ := h2
  generalize wq_up G 59 3 (G 63 (G 59 8)) = F at *
  have e : ∀ c j, ¬ (c = 59 ∧ j = 8) → wq_up F 59 8 ((l + (4294967296 - 1)) % 4294967296) c j = F c j := fun c j h1 => wq_up_ne h1
  obtain ⟨p1, p2, p3, p4, p5⟩ := p1
  exact ⟨⟨(e 57 4 (by decide)).trans p1, (e 56 4 (by decide)).trans p2, p3, (e 56 5 (by decide)).trans p4, (e 56 6 (by decide)).trans p5⟩, sx_st_x hst (fun c j a => e c j (by omega)), ⟨by rw [e 11 4 (by decide)]; exact a1, by rw [e 11 6 (by decide)]; exact a2, by rw [e 11 14 (by decide)]; exact a3, by rw [wq_up_same]; omega, hN, by omega, by rw [e 59 3 (by decide)]; exact a7, by rw [e 56 11 (by decide)]; exact a8⟩, fun j hj => by rw [e 14 j (by omega)]; exact b1 j hj, fun m hm => ⟨by rw [e 65 m (by omega)]; exact (b2 m (by omega)).1, by rw [e 63 m (by omega)]; exact (b2 m (by omega)).2⟩⟩
theorem sx_167 {nn a b : Nat} {T : Nat → Nat} {n O : Nat} {G0 G : wq_F} {c0 : List (List Nat)} {k p N B : Nat} (h : sx T n G0 c0 O k p N B G) (ha : a ≤ 1200) (hn : 10000 < nn) : wok (dk_167 nn G a b) (fun r K => sx T n G0 c0 O k p N B K) := by
  have go : ∀ g v, ∀ G : wq_F, sx T n G0 c0 O k p N B G → v ≤ 1200 → 1200 - v < g → wok (dk_167_2 nn g G a b v) (fun r K => sx T n G0 c0 O k p N B K) := by
    intro g
    induction g with
    | zero => intro v G _ _ hg; exact absurd hg (Nat.not_lt_zero _)
    | succ g ih =>
      intro v G h hv hg
      have ha := h.2.2.1.2.2.2.2.2.2.1
      show wok (dk_167_2b nn (dk_167_2 nn g) G a b v) _
      unfold dk_167_2b
      refine wok_i (fun q => ?_) (fun _ => wok_r h)
      have q := (wd_slt (by omega) (by omega)).mp q
      refine wok_l (wok_g (by omega) (wok_u (wok_l ?_)))
      rw [Nat.mod_eq_of_lt (show v + 1 < 4294967296 by omega)]
      exact ih (v + 1) _ (sx_up h (by omega)) (by omega) (by omega)
  unfold dk_167
  exact go nn a G h ha (by omega)
