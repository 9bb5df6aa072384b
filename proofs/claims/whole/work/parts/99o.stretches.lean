/-! ===== 99o: names and heights on both sides; stretches of code (wip/whole2/law99o.py) ===== -/
/-- what stands in the frames of all levels: c in the latest -/
def cxf (cx : Nat → List Nat) (N : Nat) (c : List Nat) (l : Nat) : List Nat := if l + 1 = N then c else cx l
theorem cxf_t {cx : Nat → List Nat} {N l : Nat} {c : List Nat} (h : l + 1 = N) : cxf cx N c l = c := if_pos h
theorem cxf_f {cx : Nat → List Nat} {N l : Nat} {c : List Nat} (h : ¬ l + 1 = N) : cxf cx N c l = cx l := if_neg h
/-- the reference's names: no more than there may be -/
def lsb (ls : List (List Nat)) : Prop := ∃ l0, (l0.length ≤ 2950 ∧ st_off l0 l0.length ≤ 39000) ∧ st_sf l0 ls
theorem lsb_len {F : wq_F} {ls : List (List Nat)} (h : lsb ls) (hr : rs_ok F ls) : ls.length ≤ 2951 := by
  obtain ⟨l0, h1, h2⟩ := h
  by_cases q : ls.length ≤ l0.length + 1
  · omega
  · exfalso
    have n1 := hr.2.2.2.2.2.2 l0.length (l0.length + 1) (by omega) (by omega)
    exact n1 ((h2.2 l0.length (by omega) (by omega)).trans (h2.2 (l0.length + 1) (by omega) (by omega)).symm)
theorem lsb_sf {ls ls' : List (List Nat)} (h : lsb ls) (g : st_sf ls ls') : lsb ls' := by
  obtain ⟨l0, h1, h2⟩ := h
  exact ⟨l0, h1, st_sf_trans h2 g⟩
def bz (N : Nat) (off voff ph : Nat → Nat) (cx : Nat → List Nat) (c : List Nat) (np : Nat) (F : wq_F) (ls : List (List Nat)) (G : wq_F) (cs : List (List Nat)) : Prop :=
  sc_ok N off voff ph F ls G cs ∧ cp_ok N off voff ph F G cs ∧ ll_ok N off voff F G ∧ (∀ l, l < N → G 64 l = hg (cxf cx N c l)) ∧ (∀ l k, l < N → voff l ≤ k → k < voff (l + 1) → cx_at (cxf cx N c l) (G 61 (ph k)) (F 30 k)) ∧ (∀ l, l < N → G 62 l < np) ∧ (∀ l, l < N → F 16 (G 62 l) = G 22 (G 62 l) ∧ ∀ e ∈ cxf cx N c l, e < F 14 (G 62 l) + 5) ∧ lsb ls
/-- cells that it doesn't speak of -/
def bzF (F H : wq_F) : Prop := (∀ c, c = 14 ∨ c = 15 ∨ c = 16 ∨ c = 18 ∨ c = 19 ∨ (29 ≤ c ∧ c ≤ 32) → H c = F c) ∧ H 0 50 = F 0 50 ∧ H 0 53 = F 0 53
def bzG (G H : wq_F) : Prop := (∀ c, c = 19 ∨ c = 20 ∨ c = 22 ∨ c = 23 ∨ (60 ≤ c ∧ c ≤ 63) ∨ c = 66 → H c = G c) ∧ H 59 3 = G 59 3 ∧ H 59 8 = G 59 8
theorem bzF_refl (F : wq_F) : bzF F F := ⟨fun _ _ => rfl, rfl, rfl⟩
theorem bzG_refl (F : wq_F) : bzG F F := ⟨fun _ _ => rfl, rfl, rfl⟩
theorem bzF_x {F G H : wq_F} (h : bzF F G) (hx : ∀ c j, (c = 14 ∨ c = 15 ∨ c = 16 ∨ c = 18 ∨ c = 19 ∨ (29 ≤ c ∧ c ≤ 32)) ∨ (c = 0 ∧ (j = 50 ∨ j = 53)) → H c j = G c j) : bzF F H := ⟨fun c hc => (funext fun j => hx c j (Or.inl hc)).trans (h.1 c hc), (hx 0 50 (by omega)).trans h.2.1, (hx 0 53 (by omega)).trans h.2.2⟩
theorem bzG_x {F G H : wq_F} (h : bzG F G) (hx : ∀ c j, (c = 19 ∨ c = 20 ∨ c = 22 ∨ c = 23 ∨ (60 ≤ c ∧ c ≤ 63) ∨ c = 66) ∨ (c = 59 ∧ (j = 3 ∨ j = 8)) → H c j = G c j) : bzG F H := ⟨fun c hc => (funext fun j => hx c j (Or.inl hc)).trans (h.1 c hc), (hx 59 3 (by omega)).trans h.2.1, (hx 59 8 (by omega)).trans h.2.2⟩
/-- the same names; another frame -/
theorem bz_x {N np : Nat} {off voff ph : Nat → Nat} {cx : Nat → List Nat} {c : List Nat} {ls cs : List (List Nat)} {F G : wq_F} {H K : wq_F} {d : List Nat} {ls' cs' : List (List Nat)} {m : Nat} (h : bz N off voff ph cx c np F ls G cs) (hF : bzF F H) (hG : bzG G K) (hl : st_pre ls ls') (hlb : lsb ls') (hc : st_pre cs cs') (hm : np ≤ m) (h64 : ∀ l, l < N → K 64 l = hg (cxf cx N d l)) (hat : ∀ k, voff (N - 1) ≤ k → k < voff N → cx_at c (G 61 (ph k)) (F 30 k) → cx_at d (G 61 (ph k)) (F 30 k)) (hd : ∀ e ∈ d, e < F 14 (G 62 (N - 1)) + 5) : bz N off voff ph cx d m H ls' K cs' := by
  obtain ⟨h1, h2, h3, h4, h5, h6, h7, _⟩ := h
  have f : ∀ c, c = 14 ∨ c = 15 ∨ c = 16 ∨ c = 18 ∨ c = 19 ∨ (29 ≤ c ∧ c ≤ 32) → H c = F c := hF.1
  have g : ∀ c, c = 19 ∨ c = 20 ∨ c = 22 ∨ c = 23 ∨ (60 ≤ c ∧ c ≤ 63) ∨ c = 66 → K c = G c := hG.1
  refine ⟨sc_ok_up h1 ⟨hF.2.2, hF.2.1⟩ (fun c a b => f c (by omega)) ⟨hG.2.2, hG.2.1⟩ (fun c a b => g c (by omega)) hl hc, cp_ok_up h2 ⟨f 15 (by decide), f 18 (by decide), f 19 (by decide), f 30 (by decide)⟩ ⟨g 20 (by decide), g 23 (by decide), g 60 (by decide), g 61 (by decide), g 62 (by decide), g 66 (by decide)⟩ hc.1, ?_, h64, fun l k a b e => ?_, fun l a => ?_, fun l a => ⟨?_, fun e he => ?_⟩, hlb⟩
  · unfold ll_ok
    rw [f 14 (by decide), f 30 (by decide), g 19 (by decide), g 62 (by decide)]
    exact h3
  · rw [g 61 (by decide), f 30 (by decide)]
    have h5 := h5 l k a b e
    by_cases z : l + 1 = N
    · rw [cxf_t z] at h5 ⊢
      exact hat k (by rw [show N - 1 = l by omega]; exact b) (by rw [← z]; exact e) h5
    · rw [cxf_f z] at h5 ⊢
      exact h5
  · rw [g 62 (by decide)]
    exact Nat.lt_of_lt_of_le (h6 l a) hm
  · rw [f 16 (by decide), g 22 (by decide), g 62 (by decide)]
    exact (h7 l a).1
  · rw [f 14 (by decide), g 62 (by decide)]
    have h7 := (h7 l a).2
    by_cases z : l + 1 = N
    · rw [cxf_t z] at he
      rw [show l = N - 1 by omega]
      exact hd e he
    · rw [cxf_f z] at he h7
      exact h7 e he
/-- nothing of it changed -/
theorem bz_s {N np : Nat} {off voff ph : Nat → Nat} {cx : Nat → List Nat} {c : List Nat} {ls cs : List (List Nat)} {F G : wq_F} {H K : wq_F} {cs' : List (List Nat)} (h : bz N off voff ph cx c np F ls G cs) (hF : bzF F H) (hG : bzG G K) (h64 : ∀ l, l < N → K 64 l = G 64 l) (hc : st_pre cs cs') : bz N off voff ph cx c np H ls K cs' := bz_x h hF hG (st_pre_refl _) h.2.2.2.2.2.2.2 hc (Nat.le_refl _) (fun l a => (h64 l a).trans (h.2.2.2.1 l a)) (fun _ _ _ a => a) (fun e he => by
  have hN := h.1.1.1
  have h7 := (h.2.2.2.2.2.2.1 (N - 1) (by omega)).2 e
  rw [cxf_t (by omega)] at h7
  exact h7 he)
/-- the reference alone changed, the class alone -/
theorem bz_F {N np : Nat} {off voff ph : Nat → Nat} {cx : Nat → List Nat} {c : List Nat} {ls cs : List (List Nat)} {F G : wq_F} {H : wq_F} (h : bz N off voff ph cx c np F ls G cs) (hF : bzF F H) : bz N off voff ph cx c np H ls G cs := bz_s h hF (bzG_refl _) (fun _ _ => rfl) (st_pre_refl _)
theorem bz_G {N np : Nat} {off voff ph : Nat → Nat} {cx : Nat → List Nat} {c : List Nat} {ls cs : List (List Nat)} {F G : wq_F} {H : wq_F} (h : bz N off voff ph cx c np F ls G cs) (hG : bzG G H) (h64 : ∀ l, l < N → H 64 l = G 64 l) : bz N off voff ph cx c np F ls H cs := bz_s h (bzF_refl _) hG h64 (st_pre_refl _)
/-- another height -/
theorem bz_h {N np : Nat} {off voff ph : Nat → Nat} {cx : Nat → List Nat} {c : List Nat} {ls cs : List (List Nat)} {F G : wq_F} {d : List Nat} {K : wq_F} (h : bz N off voff ph cx c np F ls G cs) (hG : bzG G K) (h64 : ∀ l, l < N → K 64 l = if l = N - 1 then hg d else G 64 l) (hat : ∀ k, voff (N - 1) ≤ k → k < voff N → cx_at c (G 61 (ph k)) (F 30 k) → cx_at d (G 61 (ph k)) (F 30 k)) (hd : ∀ e ∈ d, e < F 14 (G 62 (N - 1)) + 5) : bz N off voff ph cx d np F ls K cs := bz_x h (bzF_refl _) hG (st_pre_refl _) h.2.2.2.2.2.2.2 (st_pre_refl _) (Nat.le_refl _) (fun l a => by
  rw [h64 l a]
  by_cases z : l + 1 = N
  · rw [if_pos (by omega), cxf_t z]
  · have h4 := h.2.2.2.1 l a
    rw [cxf_f z] at h4
    rw [if_neg (by omega), cxf_f z, h4]) hat hd
/-- values above what stood there -/
theorem bz_fr {N np : Nat} {off voff ph : Nat → Nat} {cx : Nat → List Nat} {c : List Nat} {ls cs : List (List Nat)} {F G : wq_F} (h : bz N off voff ph cx c np F ls G cs) : ∀ e ∈ c, e < F 14 (G 62 (N - 1)) + 5 := fun e he => by
  have hN := h.1.1.1
  have h7 := (h.2.2.2.2.2.2.1 (N - 1) (by omega)).2 e
  rw [cxf_t (by omega)] at h7
  exact h7 he
theorem bz_hc {N np : Nat} {off voff ph : Nat → Nat} {cx : Nat → List Nat} {c : List Nat} {ls cs : List (List Nat)} {F G : wq_F} (h : bz N off voff ph cx c np F ls G cs) : G 64 (N - 1) = hg c := by
  have hN := h.1.1.1
  have h4 := h.2.2.2.1 (N - 1) (by omega)
  rw [cxf_t (by omega)] at h4
  exact h4
/-- names are the same in later stores -/
def nmr (ls cs : List (List Nat)) (nm : Nat → Nat → Prop) : Prop := ∀ a b, a < ls.length → b < cs.length → ls.getD a [] = cs.getD b [] → nm a b
theorem nmr_up {ls ls' cs cs' : List (List Nat)} {nm : Nat → Nat → Prop} (h : nmr ls' cs' nm) (h1 : st_pre ls ls') (h2 : st_pre cs cs') : nmr ls cs nm := fun a b ha hb e => h a b (Nat.lt_of_lt_of_le ha h1.1) (Nat.lt_of_lt_of_le hb h2.1) (by rw [h1.2 a ha, h2.2 b hb]; exact e)
/-- a stretch of code: from there on both go together, when they do behind it, and where the breaks lead -/
def sgm (ls cs : List (List Nat)) (A B : wq_F) (f w w' s s' nw nw' ns ns' m m' : Nat) (c c' : List Nat) (Jr Jc : List Nat) (cb : List Nat) : Prop := ∀ (H J : wq_F) (nm : Nat → Nat → Prop) (X : pt → Prop) (wb sb : Nat), ag (jl_up A 21 Jr wb) H w w' nw nw' m m' f → bg (jl_up B 14 Jc sb) J s s' ns ns' m m' → nmr ls cs nm → (∀ j ∈ Jr, j < wb) → (¬ Jr = [] → ∀ a, (∀ e ∈ a, 5 ≤ e) → sg H J nm X (f, wb, sb, a ++ cb)) → sg H J nm X (f, w', s', c') → sg H J nm X (f, w, s, c)
/-- from (A, B) to (A', B') a stretch was written -/
def pj (ls cs : List (List Nat)) (lv : Nat → Prop) (f : Nat) (cb : List Nat) (A B : wq_F) (w s nw ns m : Nat) (c : List Nat) (A' B' : wq_F) (w' s' nw' ns' m' : Nat) (c' : List Nat) (Jr Jc : List Nat) : Prop :=
  (w ≤ w' ∧ s ≤ s' ∧ nw ≤ nw' ∧ ns ≤ ns' ∧ m ≤ m') ∧ ka A A' w nw m lv ∧ kb B B' s ns m lv ∧ ((∀ j ∈ Jr, w ≤ j ∧ j < w') ∧ ∀ j ∈ Jc, s ≤ j ∧ j < s') ∧ sgm ls cs A' B' f w w' s s' nw nw' ns ns' m m' c c' Jr Jc cb
theorem jl_app {A : wq_F} {k v : Nat} {I J : List Nat} : ∀ p, jl_up A k (I ++ J) v k p = if p ∈ I ∨ p ∈ J then v else A k p := fun p => by
  unfold jl_up
  by_cases q : p ∈ I ∨ p ∈ J
  · rw [if_pos q, if_pos ⟨rfl, List.mem_append.mpr q⟩]
  · rw [if_neg q, if_neg (fun z => q (List.mem_append.mp z.2))]
theorem jl_is {A : wq_F} {k v : Nat} {I : List Nat} : ∀ p, jl_up A k I v k p = if p ∈ I then v else A k p := fun p => by
  unfold jl_up
  by_cases q : p ∈ I
  · rw [if_pos q, if_pos ⟨rfl, q⟩]
  · rw [if_neg q, if_neg (fun z => q z.2)]
theorem pj_t {ls ls' cs cs' : List (List Nat)} {lv : Nat → Prop} {f : Nat} {cb : List Nat} {A0 B0 A B A' B' : wq_F} {w0 s0 nw0 ns0 m0 w s nw ns m w' s' nw' ns' m' : Nat} {c0 c c' Jr Jc Jr' Jc' : List Nat} (h : pj ls cs lv f cb A0 B0 w0 s0 nw0 ns0 m0 c0 A B w s nw ns m c Jr Jc) (g : pj ls' cs' lv f cb A B w s nw ns m c A' B' w' s' nw' ns' m' c' Jr' Jc') (hl : st_pre ls ls') (hc : st_pre cs cs') (hlv : ∀ g, m0 ≤ g → ¬ lv g) (hf : f < m0) : pj ls' cs' lv f cb A0 B0 w0 s0 nw0 ns0 m0 c0 A' B' w' s' nw' ns' m' c' (Jr' ++ Jr) (Jc' ++ Jc) := by
  obtain ⟨⟨a1, a2, a3, a4, a5⟩, ha, hb, ⟨hJ, hI⟩, hs⟩ := h
  obtain ⟨⟨b1, b2, b3, b4, b5⟩, ga, gb, ⟨gJ, gI⟩, gs⟩ := g
  refine ⟨⟨by omega, by omega, by omega, by omega, by omega⟩, ka_trans ha ga a1 a3 a5, kb_trans hb gb a2 a4 a5, ⟨fun j hj => ?_, fun j hj => ?_⟩, fun H J nm X wb sb e1 e2 e3 e4 e5 e6 => ?_⟩
  · rcases List.mem_append.mp hj with z | z
    · have := gJ j z; omega
    · have := hJ j z; omega
  · rcases List.mem_append.mp hj with z | z
    · have := gI j z; omega
    · have := hI j z; omega
  · have x1 : ∀ (U V : wq_F) (k : Nat) (I I' : List Nat) (v p a : Nat), (∀ j ∈ I', a ≤ j) → p < a → (p < a → V k p = U k p) → jl_up V k (I' ++ I) v k p = jl_up U k I v k p := fun U V k I I' v p a hI hp hU => by
      rw [jl_app, jl_is]
      by_cases z : p ∈ I
      · rw [if_pos z, if_pos (Or.inr z)]
      · rw [if_neg z, if_neg (fun y => y.elim (fun y => by have := hI p y; omega) z)]
        exact hU hp
    have x2 : ∀ (V : wq_F) (k : Nat) (I I' : List Nat) (v p a : Nat), (∀ j ∈ I, j < a) → a ≤ p → jl_up V k (I' ++ I) v k p = jl_up V k I' v k p := fun V k I I' v p a hI hp => by
      rw [jl_app, jl_is]
      by_cases z : p ∈ I'
      · rw [if_pos z, if_pos (Or.inl z)]
      · rw [if_neg z, if_neg (fun y => y.elim z (fun y => by have := hI p y; omega))]
    have k1 : ka (jl_up A 21 Jr wb) (jl_up A' 21 (Jr' ++ Jr) wb) w nw m lv := ⟨fun c p q1 q2 q3 => by
      by_cases z : c = 21
      · rw [z]
        exact x1 A A' 21 Jr Jr' wb p w (fun j hj => (gJ j hj).1) q3 (fun y => ga.1 21 p (by decide) (by decide) y)
      · rw [jl_ne (fun y => z y.1), jl_ne (fun y => z y.1)]
        exact ga.1 c p q1 q2 q3, fun k hk => by
      rw [jl_ne (by omega), jl_ne (by omega)]
      exact ga.2.1 k hk, fun x q1 q2 => by
      have y := ga.2.2.1 x q1 q2
      have n : ∀ (U : wq_F) (I : List Nat) (c i : Nat), ¬ c = 21 → jl_up U 21 I wb c i = U c i := fun U I c i hc => jl_ne (fun z => hc z.1)
      rw [n _ _ 12 _ (by decide), n _ _ 13 _ (by decide), n _ _ 15 _ (by decide), n _ _ 16 _ (by decide), n _ _ 12 _ (by decide), n _ _ 13 _ (by decide), n _ _ 15 _ (by decide), n _ _ 16 _ (by decide)]
      refine ⟨y.1, fun k hk => ?_⟩
      rw [n _ _ 18 _ (by decide), n _ _ 19 _ (by decide), n _ _ 18 _ (by decide), n _ _ 19 _ (by decide)]
      exact y.2 k hk, fun x q1 => by
      have n : ∀ (U : wq_F) (I : List Nat) (c i : Nat), ¬ c = 21 → jl_up U 21 I wb c i = U c i := fun U I c i hc => jl_ne (fun z => hc z.1)
      rw [n _ _ 15 _ (by decide), n _ _ 15 _ (by decide), n _ _ 12 _ (by decide), n _ _ 12 _ (by decide), n _ _ 13 _ (by decide), n _ _ 13 _ (by decide)]
      exact ga.2.2.2 x q1⟩
    have k2 : kb (jl_up B 14 Jc sb) (jl_up B' 14 (Jc' ++ Jc) sb) s ns m lv := ⟨fun c p q1 q2 q3 => by
      by_cases z : c = 14
      · rw [z]
        exact x1 B B' 14 Jc Jc' sb p s (fun j hj => (gI j hj).1) q3 (fun y => gb.1 14 p (by decide) (by decide) y)
      · rw [jl_ne (fun y => z y.1), jl_ne (fun y => z y.1)]
        exact gb.1 c p q1 q2 q3, fun k hk => by
      rw [jl_ne (by omega), jl_ne (by omega)]
      exact gb.2.1 k hk, fun x q1 q2 => by
      have y := gb.2.2.1 x q1 q2
      have n : ∀ (U : wq_F) (I : List Nat) (c i : Nat), ¬ c = 14 → jl_up U 14 I sb c i = U c i := fun U I c i hc => jl_ne (fun z => hc z.1)
      rw [n _ _ 17 _ (by decide), n _ _ 18 _ (by decide), n _ _ 20 _ (by decide), n _ _ 22 _ (by decide), n _ _ 17 _ (by decide), n _ _ 18 _ (by decide), n _ _ 20 _ (by decide), n _ _ 22 _ (by decide)]
      refine ⟨y.1, fun k hk => ?_⟩
      rw [n _ _ 23 _ (by decide), n _ _ 23 _ (by decide)]
      exact y.2 k hk, fun x q1 => by
      have n : ∀ (U : wq_F) (I : List Nat) (c i : Nat), ¬ c = 14 → jl_up U 14 I sb c i = U c i := fun U I c i hc => jl_ne (fun z => hc z.1)
      rw [n _ _ 17 _ (by decide), n _ _ 17 _ (by decide), n _ _ 18 _ (by decide), n _ _ 18 _ (by decide), n _ _ 19 _ (by decide), n _ _ 19 _ (by decide)]
      exact gb.2.2.2 x q1⟩
    have m1 : ag (jl_up A' 21 Jr' wb) H w w' nw nw' m m' f := by
      obtain ⟨y1, y2, y3, y4⟩ := ag_2 e1 a1 a3 a5
      refine ⟨fun c p q1 q2 q3 q4 => ?_, fun k q1 q2 => ?_, fun x q1 q2 => ?_, ?_⟩
      · rw [y1 c p q1 q2 q3 q4]
        by_cases z : c = 21
        · rw [z]
          exact x2 A' 21 Jr Jr' wb p w (fun j hj => (hJ j hj).2) q3
        · rw [jl_ne (fun y => z y.1), jl_ne (fun y => z y.1)]
      · rw [y2 k q1 q2, jl_ne (by omega), jl_ne (by omega)]
      · have y := y3 x q1 q2
        have n : ∀ (U : wq_F) (I : List Nat) (c i : Nat), ¬ c = 21 → jl_up U 21 I wb c i = U c i := fun U I c i hc => jl_ne (fun z => hc z.1)
        rw [n _ _ 12 _ (by decide), n _ _ 13 _ (by decide), n _ _ 15 _ (by decide), n _ _ 16 _ (by decide)] at y ⊢
        refine ⟨y.1, fun k hk => ?_⟩
        have y5 := y.2 k hk
        rw [n _ _ 18 _ (by decide), n _ _ 19 _ (by decide)] at y5 ⊢
        exact y5
      · rw [jl_ne (by omega)] at y4 ⊢
        exact y4
    have m2 : bg (jl_up B' 14 Jc' sb) J s s' ns ns' m m' := by
      obtain ⟨y1, y2, y3⟩ := bg_2 e2 a2 a4 a5
      refine ⟨fun c p q1 q2 q3 q4 => ?_, fun k q1 q2 => ?_, fun x q1 q2 => ?_⟩
      · rw [y1 c p q1 q2 q3 q4]
        by_cases z : c = 14
        · rw [z]
          exact x2 B' 14 Jc Jc' sb p s (fun j hj => (hI j hj).2) q3
        · rw [jl_ne (fun y => z y.1), jl_ne (fun y => z y.1)]
      · rw [y2 k q1 q2, jl_ne (by omega), jl_ne (by omega)]
      · have y := y3 x q1 q2
        have n : ∀ (U : wq_F) (I : List Nat) (c i : Nat), ¬ c = 14 → jl_up U 14 I sb c i = U c i := fun U I c i hc => jl_ne (fun z => hc z.1)
        rw [n _ _ 17 _ (by decide), n _ _ 18 _ (by decide), n _ _ 20 _ (by decide), n _ _ 22 _ (by decide)] at y ⊢
        refine ⟨y.1, fun k hk => ?_⟩
        have y5 := y.2 k hk
        rw [n _ _ 23 _ (by decide)] at y5 ⊢
        exact y5
    refine hs H J nm X wb sb (ag_1 e1 k1 b1 b3 b5 hlv (by omega)) (bg_1 e2 k2 b2 b4 b5 hlv) (nmr_up e3 hl hc) (fun j hj => e4 j (List.mem_append_right _ hj)) (fun z => e5 (fun y => z (List.append_eq_nil_iff.mp y).2)) ?_
    exact gs H J nm X wb sb m1 m2 e3 (fun j hj => e4 j (List.mem_append_left _ hj)) (fun z => e5 (fun y => z (List.append_eq_nil_iff.mp y).1)) e6
/-- nothing written -/
theorem pj_n {ls cs : List (List Nat)} {lv : Nat → Prop} {f : Nat} {cb : List Nat} {A B A' B' : wq_F} {w s nw ns m : Nat} {c : List Nat} (h : ∀ d j, (12 ≤ d ∧ d ≤ 19) ∨ (20 ≤ d ∧ d ≤ 23 ∧ j < w) ∨ (d = 24 ∧ j < nw) → A' d j = A d j) (g : ∀ d j, (17 ≤ d ∧ d ≤ 23) ∨ (12 ≤ d ∧ d ≤ 15 ∧ j < s) ∨ (d = 16 ∧ j < ns) → B' d j = B d j) : pj ls cs lv f cb A B w s nw ns m c A' B' w s nw ns m c [] [] := ⟨⟨Nat.le_refl _, Nat.le_refl _, Nat.le_refl _, Nat.le_refl _, Nat.le_refl _⟩, ka_x h, kb_x g, ⟨fun j hj => absurd hj (List.not_mem_nil), fun j hj => absurd hj (List.not_mem_nil)⟩, fun _ _ _ _ _ _ _ _ _ _ _ e => e⟩
/-- one pair of instructions written: a form of 99n -/
theorem pj_1 {ls cs : List (List Nat)} {lv : Nat → Prop} {f : Nat} {cb : List Nat} {A B A' B' : wq_F} {w s nw ns m w' s' nw' ns' : Nat} {c c' : List Nat} (hw : w ≤ w' ∧ s ≤ s' ∧ nw ≤ nw' ∧ ns ≤ ns') (h : ∀ d j, (12 ≤ d ∧ d ≤ 19) ∨ (20 ≤ d ∧ d ≤ 23 ∧ j < w) ∨ (d = 24 ∧ j < nw) → A' d j = A d j) (g : ∀ d j, (17 ≤ d ∧ d ≤ 23) ∨ (12 ≤ d ∧ d ≤ 15 ∧ j < s) ∨ (d = 16 ∧ j < ns) → B' d j = B d j) (hs : ∀ (H J : wq_F) (nm : Nat → Nat → Prop), ag A' H w w' nw nw' m m f → bg B' J s s' ns ns' m m → nmr ls cs nm → (∃ k, cs1 H J nm k f w s c [(f, w', s', c')]) ∨ ∃ k, cs2 H J k f w s c [(f, w', s', c')]) : pj ls cs lv f cb A B w s nw ns m c A' B' w' s' nw' ns' m c' [] [] := ⟨⟨hw.1, hw.2.1, hw.2.2.1, hw.2.2.2, Nat.le_refl _⟩, ka_x h, kb_x g, ⟨fun j hj => absurd hj (List.not_mem_nil), fun j hj => absurd hj (List.not_mem_nil)⟩, fun H J nm X wb sb e1 e2 e3 _ _ e6 => by
  rw [jl_nil] at e1 e2
  rcases hs H J nm e1 e2 e3 with ⟨k, z⟩ | ⟨k, z⟩
  · exact sg_1 z e6
  · exact sg_2 z e6⟩
