/-! ===== a44: if: what is to be shown; its points (wip/whole2/lawa44.py) ===== -/
theorem ag_r {A A' H : wq_F} {w w' nw nw' m m' f v v' nv nv' k k' : Nat} (h : ag A' H w w' nw nw' m m' f) (h1 : w ≤ v ∧ v' ≤ w') (h2 : nw ≤ nv ∧ nv' ≤ nw') (h3 : m ≤ k ∧ k' ≤ m') (e1 : ∀ d p, 20 ≤ d → d ≤ 23 → v ≤ p → p < v' → A' d p = A d p) (e2 : ∀ x, nv ≤ x → x < nv' → A' 24 x = A 24 x) (e3 : ∀ g, k ≤ g → g < k' → (A' 12 g = A 12 g ∧ A' 13 g = A 13 g ∧ A' 15 g = A 15 g ∧ A' 16 g = A 16 g) ∧ ∀ x, x < 30 → A' 18 (30 * g + x) = A 18 (30 * g + x) ∧ A' 19 (30 * g + x) = A 19 (30 * g + x)) (e4 : A 15 f ≤ A' 15 f) : ag A H v v' nv nv' k k' f := by
  obtain ⟨y1, y2, y3, y4⟩ := h
  refine ⟨fun d p a b c e => (y1 d p a b (by omega) (by omega)).trans (e1 d p a b c e), fun x a b => (y2 x (by omega) (by omega)).trans (e2 x a b), fun g a b => ?_, Nat.le_trans e4 y4⟩
  obtain ⟨⟨u1, u2, u3, u4⟩, u5⟩ := y3 g (by omega) (by omega)
  obtain ⟨⟨z1, z2, z3, z4⟩, z5⟩ := e3 g a b
  exact ⟨⟨u1.trans z1, u2.trans z2, u3.trans z3, u4.trans z4⟩, fun x hx => ⟨(u5 x hx).1.trans (z5 x hx).1, (u5 x hx).2.trans (z5 x hx).2⟩⟩
theorem bg_r {B B' J : wq_F} {s s' ns ns' m m' v v' nv nv' k k' : Nat} (h : bg B' J s s' ns ns' m m') (h1 : s ≤ v ∧ v' ≤ s') (h2 : ns ≤ nv ∧ nv' ≤ ns') (h3 : m ≤ k ∧ k' ≤ m') (e1 : ∀ d p, 12 ≤ d → d ≤ 15 → v ≤ p → p < v' → B' d p = B d p) (e2 : ∀ x, nv ≤ x → x < nv' → B' 16 x = B 16 x) (e3 : ∀ g, k ≤ g → g < k' → (B' 17 g = B 17 g ∧ B' 18 g = B 18 g ∧ B' 20 g = B 20 g ∧ B' 22 g = B 22 g) ∧ ∀ x, x < 30 → B' 23 (30 * g + x) = B 23 (30 * g + x)) : bg B J v v' nv nv' k k' := by
  obtain ⟨y1, y2, y3⟩ := h
  refine ⟨fun d p a b c e => (y1 d p a b (by omega) (by omega)).trans (e1 d p a b c e), fun x a b => (y2 x (by omega) (by omega)).trans (e2 x a b), fun g a b => ?_⟩
  obtain ⟨⟨u1, u2, u3, u4⟩, u5⟩ := y3 g (by omega) (by omega)
  obtain ⟨⟨z1, z2, z3, z4⟩, z5⟩ := e3 g a b
  exact ⟨⟨u1.trans z1, u2.trans z2, u3.trans z3, u4.trans z4⟩, fun x hx => (u5 x hx).trans (z5 x hx)⟩
/-- both codes go on from u, when they do behind a stretch and where its breaks lead -/
def sgu (ls cs : List (List Nat)) (H K : wq_F) (f w w' s s' nw nw' ns ns' m m' : Nat) (c Jr Jc cb : List Nat) (u : pt) : Prop := ∀ (H' J : wq_F) (nm : Nat → Nat → Prop) (X : pt → Prop) (wb sb : Nat), ag (jl_up H 21 Jr wb) H' w w' nw nw' m m' f → bg (jl_up K 14 Jc sb) J s s' ns ns' m m' → nmr ls cs nm → (∀ j ∈ Jr, j < wb) → (¬ Jr = [] → ∀ a, (∀ e ∈ a, 5 ≤ e) → sg H' J nm X (f, wb, sb, a ++ cb)) → sg H' J nm X (f, w', s', c) → sg H' J nm X u
/-- the state behind a part of an if -/
def ifs (T : Nat → Nat) (n M : Nat) (G0 : wq_F) (c0 : List (List Nat)) (O N : Nat) (off voff ph : Nat → Nat) (cx : Nat → List Nat) (G : wq_F) (i : Nat) (ls cs : List (List Nat)) (w s nw ns np : Nat) (c : List Nat) (L : List (Nat × Nat)) (JR JC : List Nat) (t : Nat) (W : List (Nat × Nat × Nat × Nat)) (P Q : List (Nat × Nat × Nat)) (H K : wq_F) (i' : Nat) (ls' cs' : List (List Nat)) (w' s' nw' ns' np' : Nat) (L' : List (Nat × Nat)) (Jr Jc : List Nat) : Prop :=
  (ry T n M i' ls' t w' nw' np' W L' P H ∧ cy T n G0 c0 O i' cs' s' ns' np' N Q K ∧ bz N off voff ph cx c np' H ls' K cs') ∧ (w ≤ w' ∧ s ≤ s' ∧ nw ≤ nw' ∧ ns ≤ ns' ∧ np ≤ np' ∧ np' ≤ 50 ∧ i < i') ∧ ((∀ j ∈ Jr, w ≤ j ∧ j < w') ∧ ∀ j ∈ Jc, s ≤ j ∧ j < s') ∧ (st_sf ls ls' ∧ st_pre cs cs' ∧ gk N off G K) ∧ bo N L' H K w' s' (Jr ++ JR) (Jc ++ JC) ∧ lt2 N L L'
/-- a clause, from its condition to the end of the whole -/
def Cl_ok (nn : Nat) (T : Nat → Nat) (n M : Nat) (G0 : wq_F) (c0 : List (List Nat)) (O D k t N : Nat) (off voff ph : Nat → Nat) (cx : Nat → List Nat) (c cb : List Nat) (W : List (Nat × Nat × Nat × Nat)) (P Q : List (Nat × Nat × Nat)) (B0 : wq_F) (m : Nat) : Prop := ∀ (i w s nw ns np e0 d0 x g : Nat) (ls cs : List (List Nat)) (F G : wq_F) (Er Ec JR JC : List Nat) (L : List (Nat × Nat)), M < i + m → x ≤ i → m < g →
  ry T n M i ls t w nw np ((3, 0, 0, 0) :: (23, e0, 0, 0) :: W) L P F → cy T n G0 c0 O i cs s ns np N Q G → bz N off voff ph cx c np F ls G cs → bnd i w s nw ns np t (hg c) W L P Q N → L.length + 1 ≤ t → bo N L F G w s JR JC → ib N L cb c → (jc (F 21) e0 w Er ∧ jc (G 14) d0 s Ec ∧ (∀ j ∈ Er, ¬ j ∈ JR) ∧ ∀ j ∈ Ec, ¬ j ∈ JC) → (∀ l, l < N → G 62 l = B0 62 l) →
  wok ((dk_R nn k 123 [D] G).bind fun y5 => dk_122_15 (dk_R nn k) nn g y5.2 D d0 y5.1 x) (fun _ K => (∃ i' w' s' nw' ns' np' ls' cs' H L' Jr Jc, (rm_to nn F H ∧ rm_fr F H) ∧ ifs T n M G0 c0 O N off voff ph cx G i ls cs w s nw ns np c L JR JC t W P Q H K i' ls' cs' w' s' nw' ns' np' L' Jr Jc ∧ (ka (jl_up F 21 Er w') H w nw np (lvl N B0) ∧ kb (jl_up G 14 Ec s') K s ns np (lvl N B0)) ∧ sgu ls' cs' H K (B0 62 (N - 1)) w w' s s' nw nw' ns ns' np np' c Jr Jc cb (B0 62 (N - 1), w, s, c) ∧ w' + 6 * i + 4 ≤ w + 6 * i' ∧ s' + 4 * i + 2 ≤ s + 4 * i' ∧ nw' + i ≤ nw + i' ∧ ns' + i ≤ ns + i') ∨ ∃ e p, rm_out nn e p F ∧ sx T n G0 c0 O e p N (zz D + 95) K)
section
variable {nn : Nat} {T : Nat → Nat} {n M O : Nat} {G0 : wq_F} {c0 : List (List Nat)} {i t w s nw ns np N : Nat} {off voff ph : Nat → Nat} {cx : Nat → List Nat} {c cb : List Nat} {W : List (Nat × Nat × Nat × Nat)} {L : List (Nat × Nat)} {P Q : List (Nat × Nat × Nat)} {ls cs : List (List Nat)} {F G : wq_F}

/-- the points of a clause: its condition, its block, the rest -/
theorem sg_cl {lv : Nat → Prop} {f : Nat} {A1 B1 A3 B3 A4 B4 A5 B5 A9 B9 : wq_F} {w3 s3 nw3 ns3 m m3 w5 s5 nw5 ns5 m5 w9 s9 nw9 ns9 m9 wz sz : Nat} {ls3 cs3 ls5 cs5 ls9 cs9 : List (List Nat)} {Jr Jc Jr2 Jc2 : List Nat}
    (he : pj ls3 cs3 lv f cb A1 B1 w s nw ns m c A3 B3 w3 s3 nw3 ns3 m3 (0 :: c) [] []) (hk : pj ls5 cs5 lv f cb A4 B4 (w3 + 1) (s3 + 1) nw3 ns3 m3 c A5 B5 w5 s5 nw5 ns5 m5 c Jr Jc) (hl : st_pre ls3 ls9 ∧ st_pre ls5 ls9) (hcs : st_pre cs3 cs9 ∧ st_pre cs5 cs9) (hlv : ∀ g, m ≤ g → ¬ lv g) (hf : f < m) (hm : nw5 ≤ nw9 ∧ ns5 ≤ ns9 ∧ m5 ≤ m9 ∧ w5 ≤ w9 ∧ s5 ≤ s9)
    (a3 : ∀ d p, 20 ≤ d → d ≤ 23 → w ≤ p → p < w3 → A9 d p = A3 d p) (b3 : ∀ d p, 12 ≤ d → d ≤ 15 → s ≤ p → p < s3 → B9 d p = B3 d p) (a5 : ∀ d p, 20 ≤ d → d ≤ 23 → w3 < p → p < w5 → A9 d p = A5 d p) (b5 : ∀ d p, 12 ≤ d → d ≤ 15 → s3 < p → p < s5 → B9 d p = B5 d p)
    (fa3 : ka A3 A5 w3 nw3 m3 lv) (fb3 : kb B3 B5 s3 ns3 m3 lv) (fa5 : (∀ x, x < nw5 → A9 24 x = A5 24 x) ∧ (∀ g, g < m5 → ¬ lv g → (A9 12 g = A5 12 g ∧ A9 13 g = A5 13 g ∧ A9 15 g = A5 15 g ∧ A9 16 g = A5 16 g) ∧ ∀ x, x < 30 → A9 18 (30 * g + x) = A5 18 (30 * g + x) ∧ A9 19 (30 * g + x) = A5 19 (30 * g + x)) ∧ A5 15 f ≤ A9 15 f) (fb5 : (∀ x, x < ns5 → B9 16 x = B5 16 x) ∧ ∀ g, g < m5 → ¬ lv g → (B9 17 g = B5 17 g ∧ B9 18 g = B5 18 g ∧ B9 20 g = B5 20 g ∧ B9 22 g = B5 22 g) ∧ ∀ x, x < 30 → B9 23 (30 * g + x) = B5 23 (30 * g + x))
    (hA : A9 20 w3 = 22 ∧ A9 21 w3 = wz ∧ w3 < wz) (hB : B9 12 s3 = 22 ∧ B9 14 s3 = sz) (hj : (∀ j ∈ Jr2, w5 ≤ j ∧ j < w9) ∧ ∀ j ∈ Jc2, s5 ≤ j ∧ j < s9)
    (re1 : sgu ls9 cs9 A9 B9 f w5 w9 s5 s9 nw5 nw9 ns5 ns9 m5 m9 c Jr2 Jc2 cb (f, w5, s5, c)) (re2 : sgu ls9 cs9 A9 B9 f w5 w9 s5 s9 nw5 nw9 ns5 ns9 m5 m9 c Jr2 Jc2 cb (f, wz, sz, c)) :
    sgu ls9 cs9 A9 B9 f w w9 s s9 nw nw9 ns ns9 m m9 c (Jr2 ++ Jr) (Jc2 ++ Jc) cb (f, w, s, c) := by
  intro H J nm X wb sb e1 e2 e3 e4 e5 e6
  obtain ⟨⟨p1, p2, p3, p4, p5⟩, _, _, _, sge⟩ := he
  obtain ⟨⟨q1, q2, q3, q4, q5⟩, _, _, ⟨qJ, qI⟩, sgk⟩ := hk
  have nA : ∀ (I : List Nat) (d j : Nat), ¬ d = 21 → jl_up A9 21 I wb d j = A9 d j := fun I d j hd => jl_ne (fun z => hd z.1)
  have nB : ∀ (I : List Nat) (d j : Nat), ¬ d = 14 → jl_up B9 14 I sb d j = B9 d j := fun I d j hd => jl_ne (fun z => hd z.1)
  have outA : ∀ j, j ∈ Jr2 ++ Jr → w3 < j := fun j hj2 => (List.mem_append.mp hj2).elim (fun z => by have := hj.1 j z; omega) (fun z => by have := qJ j z; omega)
  have outB : ∀ j, j ∈ Jc2 ++ Jc → s3 < j := fun j hj2 => (List.mem_append.mp hj2).elim (fun z => by have := hj.2 j z; omega) (fun z => by have := qI j z; omega)
  -- the rest
  have agR : ag (jl_up A9 21 Jr2 wb) H w5 w9 nw5 nw9 m5 m9 f := ag_r e1 ⟨by omega, Nat.le_refl _⟩ ⟨by omega, Nat.le_refl _⟩ ⟨by omega, Nat.le_refl _⟩ (fun d p a b x y => by
    unfold jl_up
    by_cases z : d = 21 ∧ p ∈ Jr2
    · rw [if_pos z, if_pos ⟨z.1, List.mem_append_left _ z.2⟩]
    · rw [if_neg z, if_neg (fun u => (List.mem_append.mp u.2).elim (fun v => z ⟨u.1, v⟩) (fun v => by have := qJ p v; omega))]) (fun x a b => by rw [nA _ 24 _ (by decide), nA _ 24 _ (by decide)]) (fun g a b => by
    rw [nA _ 12 _ (by decide), nA _ 13 _ (by decide), nA _ 15 _ (by decide), nA _ 16 _ (by decide), nA _ 12 _ (by decide), nA _ 13 _ (by decide), nA _ 15 _ (by decide), nA _ 16 _ (by decide)]
    exact ⟨⟨rfl, rfl, rfl, rfl⟩, fun x hx => by
      rw [nA _ 18 _ (by decide), nA _ 19 _ (by decide), nA _ 18 _ (by decide), nA _ 19 _ (by decide)]
      exact ⟨rfl, rfl⟩⟩) (by rw [nA _ 15 _ (by decide), nA _ 15 _ (by decide)]; exact Nat.le_refl _)
  have bgR : bg (jl_up B9 14 Jc2 sb) J s5 s9 ns5 ns9 m5 m9 := bg_r e2 ⟨by omega, Nat.le_refl _⟩ ⟨by omega, Nat.le_refl _⟩ ⟨by omega, Nat.le_refl _⟩ (fun d p a b x y => by
    unfold jl_up
    by_cases z : d = 14 ∧ p ∈ Jc2
    · rw [if_pos z, if_pos ⟨z.1, List.mem_append_left _ z.2⟩]
    · rw [if_neg z, if_neg (fun u => (List.mem_append.mp u.2).elim (fun v => z ⟨u.1, v⟩) (fun v => by have := qI p v; omega))]) (fun x a b => by rw [nB _ 16 _ (by decide), nB _ 16 _ (by decide)]) (fun g a b => by
    rw [nB _ 17 _ (by decide), nB _ 18 _ (by decide), nB _ 20 _ (by decide), nB _ 22 _ (by decide), nB _ 17 _ (by decide), nB _ 18 _ (by decide), nB _ 20 _ (by decide), nB _ 22 _ (by decide)]
    exact ⟨⟨rfl, rfl, rfl, rfl⟩, fun x hx => by rw [nB _ 23 _ (by decide), nB _ 23 _ (by decide)]⟩)
  have br : ¬ Jr2 = [] → ∀ a, (∀ e ∈ a, 5 ≤ e) → sg H J nm X (f, wb, sb, a ++ cb) := fun z => e5 (fun y => z (List.append_eq_nil_iff.mp y).1)
  have R1 := re1 H J nm X wb sb agR bgR e3 (fun j h => e4 j (List.mem_append_left _ h)) br e6
  have R2 := re2 H J nm X wb sb agR bgR e3 (fun j h => e4 j (List.mem_append_left _ h)) br e6
  -- the block
  have agB : ag (jl_up A5 21 Jr wb) H (w3 + 1) w5 nw3 nw5 m3 m5 f := ag_r e1 ⟨by omega, by omega⟩ ⟨by omega, by omega⟩ ⟨by omega, by omega⟩ (fun d p a b x y => by
    unfold jl_up
    by_cases z : d = 21 ∧ p ∈ Jr
    · rw [if_pos z, if_pos ⟨z.1, List.mem_append_right _ z.2⟩]
    · rw [if_neg z, if_neg (fun u => (List.mem_append.mp u.2).elim (fun v => by have := hj.1 p v; omega) (fun v => z ⟨u.1, v⟩))]
      exact a5 d p a b (by omega) y) (fun x a b => by
    rw [nA _ 24 _ (by decide), jl_ne (by omega)]
    exact fa5.1 x b) (fun g a b => by
    have y := fa5.2.1 g b (hlv g (by omega))
    rw [nA _ 12 _ (by decide), nA _ 13 _ (by decide), nA _ 15 _ (by decide), nA _ 16 _ (by decide), jl_ne (by omega), jl_ne (by omega), jl_ne (by omega), jl_ne (by omega)]
    refine ⟨y.1, fun x hx => ?_⟩
    rw [nA _ 18 _ (by decide), nA _ 19 _ (by decide), jl_ne (by omega), jl_ne (by omega)]
    exact y.2 x hx) (by rw [nA _ 15 _ (by decide), jl_ne (by omega)]; exact fa5.2.2)
  have bgB : bg (jl_up B5 14 Jc sb) J (s3 + 1) s5 ns3 ns5 m3 m5 := bg_r e2 ⟨by omega, by omega⟩ ⟨by omega, by omega⟩ ⟨by omega, by omega⟩ (fun d p a b x y => by
    unfold jl_up
    by_cases z : d = 14 ∧ p ∈ Jc
    · rw [if_pos z, if_pos ⟨z.1, List.mem_append_right _ z.2⟩]
    · rw [if_neg z, if_neg (fun u => (List.mem_append.mp u.2).elim (fun v => by have := hj.2 p v; omega) (fun v => z ⟨u.1, v⟩))]
      exact b5 d p a b (by omega) y) (fun x a b => by
    rw [nB _ 16 _ (by decide), jl_ne (by omega)]
    exact fb5.1 x b) (fun g a b => by
    have y := fb5.2 g b (hlv g (by omega))
    rw [nB _ 17 _ (by decide), nB _ 18 _ (by decide), nB _ 20 _ (by decide), nB _ 22 _ (by decide), jl_ne (by omega), jl_ne (by omega), jl_ne (by omega), jl_ne (by omega)]
    refine ⟨y.1, fun x hx => ?_⟩
    rw [nB _ 23 _ (by decide), jl_ne (by omega)]
    exact y.2 x hx)
  have BL := sgk H J nm X wb sb agB bgB (nmr_up e3 hl.2 hcs.2) (fun j h => e4 j (List.mem_append_right _ h)) (fun z => e5 (fun y => z (List.append_eq_nil_iff.mp y).2)) R1
  -- the condition
  refine sge H J nm X 0 0 ?_ ?_ (nmr_up e3 hl.1 hcs.1) (fun j hj => absurd hj (List.not_mem_nil)) (fun z => absurd rfl z) ?_
  · rw [jl_nil]
    refine ag_r e1 ⟨Nat.le_refl _, by omega⟩ ⟨Nat.le_refl _, by omega⟩ ⟨Nat.le_refl _, by omega⟩ (fun d p a b x y => ?_) (fun x a b => ?_) (fun g a b => ?_) ?_
    · rw [jl_ne (fun z => by have := outA p z.2; omega)]
      exact a3 d p a b x y
    · rw [nA _ 24 _ (by decide), fa5.1 x (by omega)]
      exact fa3.2.1 x b
    · have y := fa5.2.1 g (by omega) (hlv g a)
      have z := fa3.2.2.1 g b (hlv g a)
      rw [nA _ 12 _ (by decide), nA _ 13 _ (by decide), nA _ 15 _ (by decide), nA _ 16 _ (by decide)]
      refine ⟨⟨y.1.1.trans z.1.1, y.1.2.1.trans z.1.2.1, y.1.2.2.1.trans z.1.2.2.1, y.1.2.2.2.trans z.1.2.2.2⟩, fun x hx => ?_⟩
      rw [nA _ 18 _ (by decide), nA _ 19 _ (by decide)]
      exact ⟨(y.2 x hx).1.trans (z.2 x hx).1, (y.2 x hx).2.trans (z.2 x hx).2⟩
    · rw [nA _ 15 _ (by decide)]
      exact Nat.le_trans (fa3.2.2.2 f (by omega)).1 fa5.2.2
  · rw [jl_nil]
    refine bg_r e2 ⟨Nat.le_refl _, by omega⟩ ⟨Nat.le_refl _, by omega⟩ ⟨Nat.le_refl _, by omega⟩ (fun d p a b x y => ?_) (fun x a b => ?_) (fun g a b => ?_)
    · rw [jl_ne (fun z => by have := outB p z.2; omega)]
      exact b3 d p a b x y
    · rw [nB _ 16 _ (by decide), fb5.1 x (by omega)]
      exact fb3.2.1 x b
    · have y := fb5.2 g (by omega) (hlv g a)
      have z := fb3.2.2.1 g b (hlv g a)
      rw [nB _ 17 _ (by decide), nB _ 18 _ (by decide), nB _ 20 _ (by decide), nB _ 22 _ (by decide)]
      refine ⟨⟨y.1.1.trans z.1.1, y.1.2.1.trans z.1.2.1, y.1.2.2.1.trans z.1.2.2.1, y.1.2.2.2.trans z.1.2.2.2⟩, fun x hx => ?_⟩
      rw [nB _ 23 _ (by decide)]
      exact (y.2 x hx).trans (z.2 x hx)
  have h20 : H 20 w3 = 22 := by
    rw [e1.1 20 w3 (by decide) (by decide) (by omega) (by omega), jl_ne (by omega)]
    exact hA.1
  have h21 : H 21 w3 = wz := by
    rw [e1.1 21 w3 (by decide) (by decide) (by omega) (by omega), jl_ne (fun z => by have := outA _ z.2; omega)]
    exact hA.2.1
  have j12 : J 12 s3 = 22 := by
    rw [e2.1 12 s3 (by decide) (by decide) (by omega) (by omega), jl_ne (by omega)]
    exact hB.1
  have j14 : J 14 s3 = sz := by
    rw [e2.1 14 s3 (by decide) (by decide) (by omega) (by omega), jl_ne (fun z => by have := outB _ z.2; omega)]
    exact hB.2
  refine sg_s (l := [(f, w3 + 1, s3 + 1, c), (f, wz, sz, c)]) (Or.inl ⟨24, h20, j12, ?_, c, rfl, ?_⟩) (fun v hv => ?_)
  · show w3 < H 21 w3
    rw [h21]
    exact hA.2.2
  · show _ = [(f, w3 + 1, s3 + 1, c), (f, H 21 w3, J 14 s3, c)]
    rw [h21, j14]
  · rcases List.mem_cons.mp hv with z | z
    · rw [z]
      exact BL
    · rw [List.mem_singleton.mp z]
      exact R2
end
