/-! ===== 99d: a new local, on both sides; a function entered and left (wip/whole2/99d.txt) ===== -/
/-- the locals counted: as many on both sides, no level knows more, every slot below -/
def ll_ok (N : Nat) (off voff : Nat → Nat) (F G : wq_F) : Prop := ∀ l, l < N → F 14 (G 62 l) = G 19 (G 62 l) ∧ G 19 (G 62 l) ≤ 50 ∧ off (l + 1) - off l ≤ G 19 (G 62 l) ∧ ∀ k, voff l ≤ k → k < voff (l + 1) → F 30 k < F 14 (G 62 l)
/-- off, but for one level's end -/
def at_N (f : Nat → Nat) (N v : Nat) : Nat → Nat := fun l => if l = N then v else f l
theorem at_N_ne {f : Nat → Nat} {N v l : Nat} (h : ¬ l = N) : at_N f N v l = f l := if_neg h
theorem at_N_is {f : Nat → Nat} {N v : Nat} : at_N f N v N = v := if_pos rfl
/-- all entries together are no more than 50 a level -/
theorem ll_sum {N : Nat} {off voff : Nat → Nat} {F G : wq_F} (h : ll_ok N off voff F G) (h0 : off 0 = 0) (hm : ∀ l, l < N → off l ≤ off (l + 1)) : ∀ l, l ≤ N → off l ≤ 50 * l
  | 0, _ => by omega
  | l + 1, hl => by
    have h1 := ll_sum h h0 hm l (by omega)
    have h2 := h l (by omega)
    have h3 := hm l (by omega)
    omega
theorem sc_vc_in {off off1 : Nat → Nat} {G G1 : wq_F} {l nc : Nat} (ho : off1 l = off l ∧ off1 (l + 1) = off (l + 1)) (h : ∀ i, i < off (l + 1) → G1 60 i = G 60 i ∧ G1 61 i = G 61 i) : sc_vc off1 G1 l nc = sc_vc off G l nc := by
  unfold sc_vc
  rw [ho.1, ho.2]
  exact lx_lst_ext (fun t ht => by rw [(h t ht).1, (h t ht).2])
/-- the class's new local, hidden yet -/
def hd_up (G : wq_F) (f a nc : Nat) : wq_F := wq_up (wq_up (wq_up (wq_up G 19 f (G 19 f + 1)) 60 a nc) 61 a 4294967295) 59 3 (a + 1)
theorem dkS_166 {G : wq_F} {f a nc : Nat} (hl : G 59 8 < 24) (hf : G 62 (G 59 8) = f) (hf5 : f < 50) (ha : G 59 3 = a) (ha2 : G 19 f < 50 → a < 1200) (ha3 : a ≤ 1200) (h50 : G 19 f ≤ 50) : dk_166 G nc = if G 19 f < 50 then some (1, hd_up G f a nc) else some (0, G) := by
  unfold dk_166
  rw [od_g1 hl, hf, od_g1 hf5]
  by_cases q : G 19 f < 50
  · have ha4 := ha2 q
    rw [if_pos ((wd_slt (by omega) (by decide)).mpr q), ha, if_pos ((wd_slt (by omega) (by decide)).mpr ha4), od_g1 hf5, od_letS, od_g1 hf5, od_upS, Nat.mod_eq_of_lt (show G 19 f + 1 < 4294967296 by omega), wq_up_cell (by decide), ha, od_g1 ha4, od_upS, wq_up_cell (by decide), wq_up_cell (by decide), ha, od_g1 ha4, od_upS, wq_up_cell (by decide), wq_up_cell (by decide), wq_up_cell (by decide), ha, od_letS, od_upS, Nat.mod_eq_of_lt (show a + 1 < 4294967296 by omega), if_pos q]
    rfl
  · rw [if_neg (fun z => q ((wd_slt (by omega) (by decide)).mp z)), if_neg q]
/-- the reference's new local -/
theorem dkS_219 {F : wq_F} {f p : Nat} (hl : F 0 53 < 52) (hf : F 32 (F 0 53) = f) (hf5 : f < 51) (h50 : F 14 f ≤ 50) (h4 : F 0 4 = 0) : dk_219 F p = if F 14 f < 50 then some (F 14 f, wq_up F 14 f (F 14 f + 1)) else some (4294967295, pm_f F 3 p) := by
  unfold dk_219 dk_218
  rw [od_g1 hl, od_bS, hf]
  dsimp only
  rw [od_g1 hf5]
  by_cases q : F 14 f < 50
  · rw [if_neg (by omega), od_g1 hf5, od_letS, od_g1 hf5, od_upS, od_g1 hf5, od_letS, Nat.mod_eq_of_lt (show F 14 f + 1 < 4294967296 by omega), wq_up_same, show (F 14 f + 1 + (4294967296 - 1)) % 4294967296 = F 14 f by omega, if_pos q]
  · have h209 : dk_209 F 3 p = some (0, pm_f F 3 p) := by
      unfold dk_209
      rw [if_pos h4, od_upS, od_upS]
      rfl
    rw [if_pos (by omega), h209, od_bS, if_neg q]
/-- both count and hide: all stays in order -/
theorem sc_hide {N : Nat} {off voff ph : Nat → Nat} {F G : wq_F} {ls cs : List (List Nat)} (hs : sc_ok N off voff ph F ls G cs) (hc : cp_ok N off voff ph F G cs) (hl : ll_ok N off voff F G) {nc : Nat} (hn : nc < cs.length) (h : G 19 (G 62 (N - 1)) < 50) :
    sc_ok N (at_N off N (off N + 1)) voff ph (wq_up F 14 (G 62 (N - 1)) (F 14 (G 62 (N - 1)) + 1)) ls (hd_up G (G 62 (N - 1)) (off N) nc) cs ∧ cp_ok N (at_N off N (off N + 1)) voff ph (wq_up F 14 (G 62 (N - 1)) (F 14 (G 62 (N - 1)) + 1)) (hd_up G (G 62 (N - 1)) (off N) nc) cs ∧ ll_ok N (at_N off N (off N + 1)) voff (wq_up F 14 (G 62 (N - 1)) (F 14 (G 62 (N - 1)) + 1)) (hd_up G (G 62 (N - 1)) (off N) nc) := by
  obtain ⟨s1, s2, s3, s4, s5, s6, s7, s8⟩ := hs
  have hsum := ll_sum hl s1.2.2.2.2.1 (fun l hl => (s2 l hl).1)
  have hsN1 := hsum (N - 1) (by omega)
  have hlN := hl (N - 1) (by omega)
  rw [show N - 1 + 1 = N by omega] at hlN
  have hbound : off N + 1 ≤ 1200 := by
    have := s1.2.1
    omega
  have Fc : ∀ c, c ≠ 14 → wq_up F 14 (G 62 (N - 1)) (F 14 (G 62 (N - 1)) + 1) c = F c := fun c hc => funext fun i => wq_up_cell hc
  generalize hf : G 62 (N - 1) = f at *
  have Gc : ∀ c i, c ≠ 19 → c ≠ 60 → c ≠ 61 → (c = 59 → i ≠ 3) → hd_up G f (off N) nc c i = G c i := fun c i c1 c2 c3 c4 => by
    unfold hd_up
    rw [wq_up_ne (fun z => c4 z.1 z.2), wq_up_cell c3, wq_up_cell c2, wq_up_cell c1]
  have G62 : hd_up G f (off N) nc 62 = G 62 := funext fun i => Gc 62 i (by decide) (by decide) (by decide) (by omega)
  have G63 : hd_up G f (off N) nc 63 = G 63 := funext fun i => Gc 63 i (by decide) (by decide) (by decide) (by omega)
  have G60 : ∀ i, hd_up G f (off N) nc 60 i = if i = off N then nc else G 60 i := fun i => by
    unfold hd_up
    rw [wq_up_cell (by decide), wq_up_cell (by decide)]
    by_cases e : i = off N
    · rw [if_pos e, e, wq_up_same]
    · rw [if_neg e, wq_up_at e, wq_up_cell (by decide)]
  have G61 : ∀ i, hd_up G f (off N) nc 61 i = if i = off N then 4294967295 else G 61 i := fun i => by
    unfold hd_up
    rw [wq_up_cell (by decide)]
    by_cases e : i = off N
    · rw [if_pos e, e, wq_up_same]
    · rw [if_neg e, wq_up_at e, wq_up_cell (by decide), wq_up_cell (by decide)]
  have G19 : ∀ i, hd_up G f (off N) nc 19 i = if i = f then G 19 f + 1 else G 19 i := fun i => by
    unfold hd_up
    rw [wq_up_cell (by decide), wq_up_cell (by decide), wq_up_cell (by decide)]
    by_cases e : i = f
    · rw [if_pos e, e, wq_up_same]
    · rw [if_neg e, wq_up_at e]
  have G593 : hd_up G f (off N) nc 59 3 = off N + 1 := wq_up_same _ _ _ _
  have G598 : hd_up G f (off N) nc 59 8 = G 59 8 := Gc 59 8 (by decide) (by decide) (by decide) (by decide)
  have G20 : hd_up G f (off N) nc 20 = G 20 := funext fun i => Gc 20 i (by decide) (by decide) (by decide) (by omega)
  have G23 : hd_up G f (off N) nc 23 = G 23 := funext fun i => Gc 23 i (by decide) (by decide) (by decide) (by omega)
  have G66 : hd_up G f (off N) nc 66 = G 66 := funext fun i => Gc 66 i (by decide) (by decide) (by decide) (by omega)
  generalize hd_up G f (off N) nc = G1 at *
  have oN : at_N off N (off N + 1) N = off N + 1 := at_N_is
  have oL : ∀ l, l < N → at_N off N (off N + 1) l = off l := fun l hl => at_N_ne (by omega)
  have oS : ∀ l, l < N → at_N off N (off N + 1) (l + 1) = if l + 1 = N then off N + 1 else off (l + 1) := fun l hl => by
    by_cases e : l + 1 = N
    · rw [if_pos e, e, oN]
    · rw [if_neg e, at_N_ne e]
  generalize at_N off N (off N + 1) = o1 at *
  have mono := fun {a b : Nat} => sc_mono (f := off) (N := N) (a := a) (b := b) (fun l hl => (s2 l hl).1)
  refine ⟨⟨?_, fun l hl => ?_, fun k hk => ?_, s4, fun i hi hv => ?_, fun l k hl hk => ?_, fun l j k hl h1 h2 h3 => ?_, fun l m h1 h2 => ?_⟩, ?_, fun l hl2 => ?_⟩
  · rw [Fc 0 (by decide), G598, G593, oN, oL 0 (by omega)]
    exact ⟨s1.1, s1.2.1, s1.2.2.1, s1.2.2.2.1, s1.2.2.2.2.1, s1.2.2.2.2.2.1, rfl, s1.2.2.2.2.2.2.2.1, hbound⟩
  · obtain ⟨a1, a2, a3, a4, a5, a6⟩ := s2 l hl
    rw [oL l hl, oS l hl, G63, Fc 31 (by decide), Fc 32 (by decide), G62]
    refine ⟨?_, a2, a3, a4, a5, a6⟩
    by_cases e : l + 1 = N
    · rw [if_pos e]
      rw [e] at a1
      omega
    · rw [if_neg e]
      exact a1
  · obtain ⟨a1, a2, a3, a4, a5⟩ := s3 k hk
    rw [oN, G61, if_neg (by omega), Fc 29 (by decide), G60, if_neg (by omega)]
    exact ⟨by omega, a2, a3, a4, a5⟩
  · rw [oN] at hi
    rw [G61] at hv
    by_cases e : i = off N
    · rw [if_pos e] at hv
      exact absurd rfl hv
    · rw [if_neg e] at hv
      exact s5 i (by omega) hv
  · have h6 := s6 l k hl hk
    have h3 := (s3 k hk).1
    rw [oL l hl, oS l hl]
    by_cases e : l + 1 = N
    · rw [if_pos e]
      rw [e] at h6 ⊢
      omega
    · rw [if_neg e]
      exact h6
  · rw [Fc 30 (by decide)]
    exact s7 l j k hl h1 h2 h3
  · rw [G62]
    exact s8 l m h1 h2
  · have vc : ∀ l b, l + 1 < N → sc_vc o1 G1 l b = sc_vc off G l b := fun l b hl => sc_vc_in ⟨oL l (by omega), oL (l + 1) hl⟩ (fun i hi => by
      have := mono (show l + 1 ≤ N by omega) (Nat.le_refl _)
      rw [G60, G61, if_neg (by omega), if_neg (by omega)]
      exact ⟨rfl, rfl⟩)
    unfold cp_ok cp_at at hc ⊢
    rw [Fc 15 (by decide), Fc 18 (by decide), Fc 19 (by decide), Fc 30 (by decide), G20, G62, G66, G23]
    refine ⟨hc.1, fun l hl2 => ?_⟩
    obtain ⟨c1, c2, c3, c4⟩ := hc.2 l hl2
    refine ⟨c1, c2, c3, fun k hk => ?_⟩
    obtain ⟨d1, d2, d3⟩ := c4 k hk
    rw [vc l _ hl2]
    refine ⟨d1, fun i hi => ?_, d3⟩
    obtain ⟨k0, e1, e2, e3, e4, e5, e6⟩ := d2 i hi
    have hi2 := (lx_lst_some hi).1
    have := mono (show l + 1 ≤ N by omega) (Nat.le_refl _)
    rw [G61, if_neg (by omega)]
    exact ⟨k0, e1, e2, e3, e4, e5, e6⟩
  · obtain ⟨a1, a2, a3, a4⟩ := hl l hl2
    rw [G62, G19, Fc 30 (by decide), oL l hl2, oS l hl2]
    by_cases e : l + 1 = N
    · have el : G 62 l = f := by rw [← hf, show N - 1 = l by omega]
      rw [el] at a1 a2 a3 a4 ⊢
      rw [if_pos rfl, if_pos e, wq_up_same]
      rw [e] at a3
      exact ⟨by omega, by omega, by omega, fun k h1 h2 => by have := a4 k h1 h2; omega⟩
    · have el : ¬ G 62 l = f := by
        have := s8 l (N - 1) (by omega) (by omega)
        omega
      rw [if_neg el, if_neg e, wq_up_at el]
      exact ⟨a1, a2, a3, a4⟩
