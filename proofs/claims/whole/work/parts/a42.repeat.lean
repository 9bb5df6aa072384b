/-! ===== a42: repeat .. until (wip/whole2/lawa42.py) ===== -/
theorem cx_at_lo {c : List Nat} {s : Nat} : ∀ {a : List Nat}, cx_at (a ++ c) (hg c) s → (∀ e ∈ a, 5 ≤ e) → fs (a ++ c) → (∀ e ∈ a, s + 5 ≤ e) ∧ ∀ e ∈ c, e < s + 5
  | [], h, _, _ => absurd (cx_at_lt h) (Nat.lt_irrefl _)
  | e0 :: a, ⟨x, y, h1, h2⟩, h5, hf => by
    have hc := cx_at_hi (Nat.le_refl _) (a := e0 :: a) ⟨x, y, h1, h2⟩ hf
    refine ⟨?_, hc⟩
    cases x with
    | nil =>
      injection h1 with e1 e2
      have e3 : y = a ++ c := e2.symm
      rw [e3, hg_app, hg_5 (fun e he => h5 e (List.mem_cons_of_mem _ he))] at h2
      have ea : a = [] := List.eq_nil_of_length_eq_zero (by omega)
      intro e he
      rw [ea, List.mem_singleton] at he
      omega
    | cons z x =>
      injection h1 with e1 e2
      have e3 : a ++ c = x ++ (s + 5) :: y := e2
      have hin : cx_at (a ++ c) (hg c) s := ⟨x, y, e3, h2⟩
      have ih := (cx_at_lo hin (fun e he => h5 e (List.mem_cons_of_mem _ he)) (fs_dn (a := [e0]) hf)).1
      intro e he
      rcases List.mem_cons.mp he with q | q
      · have y1 := hf [] e0 (a ++ c) rfl (h5 e0 (List.mem_cons_self ..)) (s + 5) (cx_at_mem hin)
        omega
      · exact ih e q
theorem map_lo {a c : List Nat} {s : Nat} (h1 : ∀ e ∈ a, s ≤ e) (h2 : ∀ e ∈ c, e < s) : (a ++ c).map (fun e => if s ≤ e then 3 else e) = a.map (fun _ => 3) ++ c := by
  rw [List.map_append]
  have e1 : a.map (fun e => if s ≤ e then 3 else e) = a.map (fun _ => 3) := List.map_congr_left (fun e he => if_pos (h1 e he))
  have e2 : c.map (fun e => if s ≤ e then 3 else e) = c := by
    have : c.map (fun e => if s ≤ e then 3 else e) = c.map id := List.map_congr_left (fun e he => if_neg (by have := h2 e he; omega))
    rw [this, List.map_id]
  rw [e1, e2]
section
variable {nn : Nat} {T : Nat → Nat} {n M O : Nat} {G0 : wq_F} {c0 : List (List Nat)} {i t w s nw ns np N : Nat} {off voff ph : Nat → Nat} {cx : Nat → List Nat} {c cb : List Nat} {W : List (Nat × Nat × Nat × Nat)} {L : List (Nat × Nat)} {P Q : List (Nat × Nat × Nat)} {ls cs : List (List Nat)} {F G : wq_F}

variable {Jr0 Jc0 Jr Jc : List Nat}
theorem ag_jl {A H : wq_F} {w' nw' m m' f v : Nat} {J : List Nat} (h : ag (jl_up A 21 J v) H w w' nw nw' m m' f) (hJ : ∀ j ∈ J, j < w) : ag A H w w' nw nw' m m' f := by
  obtain ⟨y1, y2, y3, y4⟩ := h
  have n' : ∀ (d j : Nat), ¬ d = 21 → jl_up A 21 J v d j = A d j := fun d j hd => jl_ne (fun z => hd z.1)
  refine ⟨fun d p z1 z2 z3 z4 => ?_, fun k z1 z2 => ?_, fun g z1 z2 => ?_, ?_⟩
  · rw [y1 d p z1 z2 z3 z4]
    exact jl_ne (fun z => by have := hJ p z.2; omega)
  · rw [y2 k z1 z2, n' 24 _ (by decide)]
  · have yy := y3 g z1 z2
    rw [n' 12 _ (by decide), n' 13 _ (by decide), n' 15 _ (by decide), n' 16 _ (by decide)] at yy
    refine ⟨yy.1, fun k hk => ?_⟩
    have y5 := yy.2 k hk
    rw [n' 18 _ (by decide), n' 19 _ (by decide)] at y5
    exact y5
  · rw [n' 15 _ (by decide)] at y4
    exact y4
theorem bg_jl {B J' : wq_F} {s' ns' m m' v : Nat} {J : List Nat} (h : bg (jl_up B 14 J v) J' s s' ns ns' m m') (hJ : ∀ j ∈ J, j < s) : bg B J' s s' ns ns' m m' := by
  obtain ⟨y1, y2, y3⟩ := h
  have n' : ∀ (d j : Nat), ¬ d = 14 → jl_up B 14 J v d j = B d j := fun d j hd => jl_ne (fun z => hd z.1)
  refine ⟨fun d p z1 z2 z3 z4 => ?_, fun k z1 z2 => ?_, fun g z1 z2 => ?_⟩
  · rw [y1 d p z1 z2 z3 z4]
    exact jl_ne (fun z => by have := hJ p z.2; omega)
  · rw [y2 k z1 z2, n' 16 _ (by decide)]
  · have yy := y3 g z1 z2
    rw [n' 17 _ (by decide), n' 18 _ (by decide), n' 20 _ (by decide), n' 22 _ (by decide)] at yy
    refine ⟨yy.1, fun k hk => ?_⟩
    have y5 := yy.2 k hk
    rw [n' 23 _ (by decide)] at y5
    exact y5
theorem ka_jl {A B : wq_F} {m v : Nat} {lv : Nat → Prop} {J : List Nat} (h : ka A B w nw m lv) : ka (jl_up A 21 J v) (jl_up B 21 J v) w nw m lv := by
  have n' : ∀ (U : wq_F) (d j : Nat), ¬ d = 21 → jl_up U 21 J v d j = U d j := fun U d j hd => jl_ne (fun z => hd z.1)
  refine ⟨fun d p a b e => ?_, fun k hk => ?_, fun g hg hl => ?_, fun g hg => ?_⟩
  · unfold jl_up
    by_cases z : d = 21 ∧ p ∈ J
    · rw [if_pos z, if_pos z]
    · rw [if_neg z, if_neg z]
      exact h.1 d p a b e
  · rw [n' _ 24 _ (by decide), n' _ 24 _ (by decide)]
    exact h.2.1 k hk
  · have y := h.2.2.1 g hg hl
    rw [n' _ 12 _ (by decide), n' _ 13 _ (by decide), n' _ 15 _ (by decide), n' _ 16 _ (by decide), n' _ 12 _ (by decide), n' _ 13 _ (by decide), n' _ 15 _ (by decide), n' _ 16 _ (by decide)]
    refine ⟨y.1, fun k hk => ?_⟩
    rw [n' _ 18 _ (by decide), n' _ 19 _ (by decide), n' _ 18 _ (by decide), n' _ 19 _ (by decide)]
    exact y.2 k hk
  · rw [n' _ 15 _ (by decide), n' _ 15 _ (by decide), n' _ 12 _ (by decide), n' _ 12 _ (by decide), n' _ 13 _ (by decide), n' _ 13 _ (by decide)]
    exact h.2.2.2 g hg
theorem kb_jl {A B : wq_F} {m v : Nat} {lv : Nat → Prop} {J : List Nat} (h : kb A B s ns m lv) : kb (jl_up A 14 J v) (jl_up B 14 J v) s ns m lv := by
  have n' : ∀ (U : wq_F) (d j : Nat), ¬ d = 14 → jl_up U 14 J v d j = U d j := fun U d j hd => jl_ne (fun z => hd z.1)
  refine ⟨fun d p a b e => ?_, fun k hk => ?_, fun g hg hl => ?_, fun g hg => ?_⟩
  · unfold jl_up
    by_cases z : d = 14 ∧ p ∈ J
    · rw [if_pos z, if_pos z]
    · rw [if_neg z, if_neg z]
      exact h.1 d p a b e
  · rw [n' _ 16 _ (by decide), n' _ 16 _ (by decide)]
    exact h.2.1 k hk
  · have y := h.2.2.1 g hg hl
    rw [n' _ 17 _ (by decide), n' _ 18 _ (by decide), n' _ 20 _ (by decide), n' _ 22 _ (by decide), n' _ 17 _ (by decide), n' _ 18 _ (by decide), n' _ 20 _ (by decide), n' _ 22 _ (by decide)]
    refine ⟨y.1, fun k hk => ?_⟩
    rw [n' _ 23 _ (by decide), n' _ 23 _ (by decide)]
    exact y.2 k hk
  · rw [n' _ 17 _ (by decide), n' _ 17 _ (by decide), n' _ 18 _ (by decide), n' _ 18 _ (by decide), n' _ 19 _ (by decide), n' _ 19 _ (by decide)]
    exact h.2.2.2 g hg
/-- the points of a loop whose condition stands last -/
theorem sg_rp {lv : Nat → Prop} {f : Nat} {A1 B1 A5 B5 A7 B7 A8 B8 A9 B9 : wq_F} {w5 s5 nw5 ns5 m m5 w8 s8 nw8 ns8 m8 wj a1 : Nat} {a : List Nat} {ls5 cs5 ls8 cs8 : List (List Nat)}
    (hk : pj ls5 cs5 lv f c A1 B1 w s nw ns m c A5 B5 w5 s5 nw5 ns5 m5 (a ++ c) Jr Jc) (he : pj ls8 cs8 lv f cb A7 B7 (w5 + 1) (s5 + 1) nw5 ns5 m5 (a ++ c) A8 B8 w8 s8 nw8 ns8 m8 (0 :: (a ++ c)) [] []) (hl : st_pre ls5 ls8) (hcs : st_pre cs5 cs8) (hlv : ∀ g, m ≤ g → ¬ lv g) (hf : f < m)
    (ka5 : ka (jl_up A5 21 Jr (wj + 1)) A9 w5 nw5 m5 lv) (kb5 : kb (jl_up B5 14 Jc (s8 + 4)) B9 s5 ns5 m5 lv) (ka8 : ka (jl_up A8 21 Jr (wj + 1)) A9 w8 nw8 m8 lv) (kb8 : kb (jl_up B8 14 Jc (s8 + 4)) B9 s8 ns8 m8 lv) (hwj : (wj = w8 ∧ a = []) ∨ (wj = w8 + 1 ∧ A9 20 w8 = 20 ∧ (∀ e ∈ a, A9 21 w8 + 5 ≤ e) ∧ ∀ e ∈ c, e < A9 21 w8 + 5))
    (hA : A9 20 w = 0 ∧ A9 20 w5 = 0 ∧ A9 20 wj = 22 ∧ A9 21 wj = w ∧ A9 20 (wj + 1) = 20 ∧ A9 21 (wj + 1) = a1) (hB : B9 12 s5 = 0 ∧ B9 12 s8 = 22 ∧ B9 14 s8 = s8 + 2 ∧ B9 12 (s8 + 1) = 21 ∧ B9 14 (s8 + 1) = s8 + 4 ∧ B9 12 (s8 + 2) = 27 ∧ B9 13 (s8 + 2) = hg c ∧ B9 12 (s8 + 3) = 21 ∧ B9 14 (s8 + 3) = s ∧ B9 12 (s8 + 4) = 27 ∧ B9 13 (s8 + 4) = hg c) (ha1 : ∀ e ∈ c, e < a1 + 5) (cbx : List Nat) :
    sgm ls8 cs8 A9 B9 f w (wj + 2) s (s8 + 5) nw nw8 ns ns8 m m8 c c [] [] cbx := by
  intro H J nm X wb sb e1 e2 e3 _ _ e6
  rw [jl_nil] at e1 e2
  obtain ⟨⟨p1, p2, p3, p4, p5⟩, _, _, _, sge⟩ := he
  obtain ⟨⟨q1, q2, q3, q4, q5⟩, _, _, ⟨qJ, qI⟩, sgk⟩ := hk
  obtain ⟨a1', a2', a3', a4', a5', a6'⟩ := hA
  obtain ⟨b1', b2', b3', b4', b5', b6', b7', b8', b9', b10', b11'⟩ := hB
  have hj2 : w8 ≤ wj ∧ wj ≤ w8 + 1 := by rcases hwj with ⟨z, _⟩ | ⟨z, _⟩ <;> omega
  have rA : ∀ d p, 20 ≤ d → d ≤ 23 → w ≤ p → p < wj + 2 → H d p = A9 d p := e1.1
  have rB : ∀ d p, 12 ≤ d → d ≤ 15 → s ≤ p → p < s8 + 5 → J d p = B9 d p := e2.1
  -- the exit
  have ex : ∀ (Y : pt → Prop), (∀ u, X u → Y u) → ∀ x, (∀ e ∈ x, 3 ≤ e) → sg H J nm Y (f, wj + 1, s8 + 4, x ++ c) := fun Y hY x hx => by
    refine sg_s (l := [(f, wj + 1 + 1, s8 + 4 + 1, c)]) (Or.inl ⟨21, ?_, ?_, x, c, rfl, hx, ?_, ?_, rfl⟩) (fun v hv => ?_)
    · exact (rA 20 (wj + 1) (by decide) (by decide) (by omega) (by omega)).trans a5'
    · exact (rB 12 (s8 + 4) (by decide) (by decide) (by omega) (by omega)).trans b10'
    · exact (rB 13 (s8 + 4) (by decide) (by decide) (by omega) (by omega)).trans b11'
    · show ∀ e ∈ c, e < H 21 (wj + 1) + 5
      rw [rA 21 (wj + 1) (by decide) (by decide) (by omega) (by omega), a6']
      exact ha1
    · rw [List.mem_singleton.mp hv]
      exact sg_mono (fun u hu => sg_x (hY u hu)) e6
  -- from the beginning to the jump
  have go : ∀ (Y : pt → Prop), (∀ u, X u → Y u) → (∀ x, (∀ e ∈ x, e = 3) → (wj = w8 → x = []) → (wj = w8 + 1 → x = a.map (fun _ => 3)) → sg H J nm Y (f, wj, s8, 0 :: (x ++ c))) → sg H J nm Y (f, w, s, c) := fun Y hY hJ => by
    refine sgk H J nm Y (wj + 1) (s8 + 4) (ag_1 e1 ka5 (by omega) (by omega) (by omega) hlv (by omega)) (bg_1 e2 kb5 (by omega) (by omega) (by omega) hlv) (nmr_up e3 hl hcs) (fun j hj => by have := qJ j hj; omega) (fun _ x hx => ex Y hY x (fun e he => by have := hx e he; omega)) ?_
    refine sg_s (l := [(f, w5 + 1, s5 + 1, a ++ c)]) (Or.inl ⟨0, ?_, ?_, rfl⟩) (fun v hv => ?_)
    · exact (rA 20 w5 (by decide) (by decide) (by omega) (by omega)).trans a2'
    · exact (rB 12 s5 (by decide) (by decide) (by omega) (by omega)).trans b1'
    rw [List.mem_singleton.mp hv]
    refine sge H J nm Y 0 0 ?_ ?_ e3 (fun j hj => absurd hj (List.not_mem_nil)) (fun z => absurd rfl z) ?_
    · rw [jl_nil]
      exact ag_jl (ag_2 (ag_1 e1 ka8 (by omega) (by omega) (by omega) hlv (by omega)) (by omega) q3 q5) (fun j hj => by have := qJ j hj; omega)
    · rw [jl_nil]
      exact bg_jl (bg_2 (bg_1 e2 kb8 (by omega) (by omega) (by omega) hlv) (by omega) q4 q5) (fun j hj => by have := qI j hj; omega)
    rcases hwj with ⟨z1, z2⟩ | ⟨z1, z2, z3, z4⟩
    · have y := hJ [] (fun e he => absurd he (List.not_mem_nil)) (fun _ => rfl) (fun z => by omega)
      rw [z1] at y
      rw [z2]
      exact y
    · have h21 : H 21 w8 = A9 21 w8 := rA 21 w8 (by decide) (by decide) (by omega) (by omega)
      refine sg_s (l := [(f, w8 + 1, s8, (0 :: (a ++ c)).map (fun e => if H 21 w8 + 5 ≤ e then 3 else e))]) (Or.inl ⟨20, ?_, rfl⟩) (fun v hv => ?_)
      · exact (rA 20 w8 (by decide) (by decide) (by omega) (by omega)).trans z2
      · rw [List.mem_singleton.mp hv, List.map_cons, if_neg (by omega), h21, map_lo z3 z4, ← z1]
        exact hJ _ (fun e he => by
          obtain ⟨x, _, hx⟩ := List.mem_map.mp he
          exact hx.symm) (fun z => by omega) (fun _ => rfl)
  have h22 : H 20 wj = 22 := (rA 20 wj (by decide) (by decide) (by omega) (by omega)).trans a3'
  have h21 : H 21 wj = w := (rA 21 wj (by decide) (by decide) (by omega) (by omega)).trans a4'
  have hcd : ∀ x, (∀ e ∈ x, e = 3) → cd H J nm (f, wj, s8, 0 :: (x ++ c)) [(f, wj + 1, s8 + 4, x ++ c), (f, w, s, c)] := fun x hx => by
    refine Or.inl ⟨25, h22, ?_, ?_, ?_, ?_, ?_, ?_, x, c, rfl, hx, ?_, ?_⟩
    · exact (rB 12 s8 (by decide) (by decide) (by omega) (by omega)).trans b2'
    · show H 20 (H 21 wj) = 0
      rw [h21]
      exact (rA 20 w (by decide) (by decide) (by omega) (by omega)).trans a1'
    · exact (rB 14 s8 (by decide) (by decide) (by omega) (by omega)).trans b3'
    · exact (rB 12 (s8 + 1) (by decide) (by decide) (by omega) (by omega)).trans b4'
    · exact (rB 12 (s8 + 2) (by decide) (by decide) (by omega) (by omega)).trans b6'
    · exact (rB 12 (s8 + 3) (by decide) (by decide) (by omega) (by omega)).trans b8'
    · exact (rB 13 (s8 + 2) (by decide) (by decide) (by omega) (by omega)).trans b7'
    · show _ = [(f, wj + 1, J 14 (s8 + 1), x ++ c), (f, H 21 wj, J 14 (s8 + 3), c)]
      rw [h21, rB 14 (s8 + 1) (by decide) (by decide) (by omega) (by omega), b5', rB 14 (s8 + 3) (by decide) (by decide) (by omega) (by omega), b9']
  refine go X (fun u hu => hu) (fun x hx x1 x2 => ?_)
  refine sg_loop (hcd x hx) (fun v hv => ?_)
  rcases List.mem_cons.mp hv with z | z
  · rw [z]
    exact ex _ (fun u hu => Or.inl hu) x (fun e he => by rw [hx e he]; decide)
  · rw [List.mem_singleton.mp z]
    refine go _ (fun u hu => Or.inl hu) (fun y hy y1 y2 => sg_x (Or.inr ?_))
    have : y = x := by
      rcases hwj with ⟨z, _⟩ | ⟨z, _⟩
      · rw [x1 z, y1 z]
      · rw [x2 z, y2 z]
    rw [this]
theorem sx_r4 {e p B h ag of0 o : Nat} (hx : sx T n G0 c0 O e p N B G) (hB : B + 5 < 10000) (ha : okj ag) (ho : okj o) (h0 : of0 ≤ 1200) (hn : 10000 < nn) : wok ((dk_78 G 22 0 4294967295 0).bind fun y33 => (dk_164 y33.2).bind fun y37 => (dk_78 y37.2 21 0 y37.1 0).bind fun y41 => (dk_165 y41.2 y41.1).bind fun y45 => (dk_159 nn y45.2 y33.1).bind fun y49 => (dk_113 y49.2 h).bind fun y53 => (dk_78 y53.2 21 0 ag 0).bind fun y57 => (dk_168 y57.2 of0).bind fun y61 => (dk_120 nn y61.2 h o).bind fun y65 => some (0, y65.2)) (fun _ K => sx T n G0 c0 O e p N (B + 5) K) := by
  refine wok_b (sx_78 hx (by omega) (okj_n (by decide))) fun r K h => ?_
  have hr0 := h.1
  refine wok_b (sx_164 h.2) fun r2 K h => ?_
  refine wok_b (sx_78 h.2 (by omega) h.1) fun r3 K h => ?_
  refine wok_b (sx_165 h.2 (okj_p h.1)) fun r4 K h => ?_
  refine wok_b (sx_159 h (by omega) (okj_p hr0) hn) fun r K h => ?_
  refine wok_b (sx_113 h (by omega)) fun r K h => ?_
  refine wok_b (sx_78 h (by omega) ha) fun r K h => ?_
  refine wok_b (sx_168 h.2 h0) fun r K h => ?_
  exact wok_b (sx_120 h (by omega) ho hn) fun r K h => wok_r h
theorem sx_r3 {k d e p B h ag of0 o : Nat} (hx : sx T n G0 c0 O e p N B G) (hB : B + 6 < 10000) (ha : okj ag) (ho : okj o) (h0 : of0 ≤ 1200) (hn : 10000 < nn) (hk : 1 ≤ k) : wok ((dk_110 nn G 29).bind fun y21 => (dk_78 y21.2 0 0 0 0).bind fun y25 => (dk_R nn k 148 [0, d] y25.2).bind fun y29 => (dk_78 y29.2 22 0 4294967295 0).bind fun y33 => (dk_164 y33.2).bind fun y37 => (dk_78 y37.2 21 0 y37.1 0).bind fun y41 => (dk_165 y41.2 y41.1).bind fun y45 => (dk_159 nn y45.2 y33.1).bind fun y49 => (dk_113 y49.2 h).bind fun y53 => (dk_78 y53.2 21 0 ag 0).bind fun y57 => (dk_168 y57.2 of0).bind fun y61 => (dk_120 nn y61.2 h o).bind fun y65 => some (0, y65.2)) (fun _ K => sx T n G0 c0 O e p N (B + 6) K) := by
  refine wok_b (sx_110 hx (by decide)) fun r K h => ?_
  refine wok_b (sx_78 h (by omega) (okj_p (by decide))) fun r K h => ?_
  refine wok_b (sx_148 h.2 hk) fun r K h => ?_
  exact sx_r4 h.2 (by omega) ha ho h0 hn
theorem sxy_r3 {k d e p B h ag of0 o : Nat} (hx : sxy T n G0 c0 O e p N B G) (hB : B + 6 < 10000) (ha : okj ag) (ho : okj o) (h0 : of0 ≤ 1200) (hn : 10000 < nn) (hk : 1 ≤ k) : wok ((dk_110 nn G 29).bind fun y21 => (dk_78 y21.2 0 0 0 0).bind fun y25 => (dk_R nn k 148 [0, d] y25.2).bind fun y29 => (dk_78 y29.2 22 0 4294967295 0).bind fun y33 => (dk_164 y33.2).bind fun y37 => (dk_78 y37.2 21 0 y37.1 0).bind fun y41 => (dk_165 y41.2 y41.1).bind fun y45 => (dk_159 nn y45.2 y33.1).bind fun y49 => (dk_113 y49.2 h).bind fun y53 => (dk_78 y53.2 21 0 ag 0).bind fun y57 => (dk_168 y57.2 of0).bind fun y61 => (dk_120 nn y61.2 h o).bind fun y65 => some (0, y65.2)) (fun _ K => sx T n G0 c0 O e p N (B + 6) K) := by
  refine wok_b (sxy_110 hx (by decide) (by decide)) fun r K h => ?_
  refine wok_b (sx_78 h (by omega) (okj_p (by decide))) fun r K h => ?_
  refine wok_b (sx_148 h.2 hk) fun r K h => ?_
  exact sx_r4 h.2 (by omega) ha ho h0 hn
end
