/-! ===== 92: the class's next() between tokens (wip/whole2/92.txt) ===== -/
/-- the strings of the class's store, Sd being what was said so far -/
def px_str (G0 : wq_F) (c0 : List (List Nat)) (Sd : List Nat → Prop) (G : wq_F) (cs : List (List Nat)) : Prop :=
  (∀ s, s < c0.length → cs.getD s [] = c0.getD s []) ∧ c0.length ≤ cs.length ∧ (∀ s, c0.length ≤ s → s < cs.length → Sd (cs.getD s []) ∧ G 9 s = 3) ∧
    (∀ s, s < c0.length → G 9 s = G0 9 s ∨ (G0 9 s = 2 ∧ G 9 s = 3)) ∧ (∀ s, s < c0.length → (G0 9 s = 2 ∧ G 9 s = 3 ↔ G0 9 s = 2 ∧ Sd (c0.getD s []))) ∧ G 2 11 = cs.length
theorem px_str_ct {T : Nat → Nat} {n p i : Nat} {G0 G H : wq_F} {c0 cs ms : List (List Nat)} {Sd : List Nat → Prop} (h : px_str G0 c0 Sd G cs) (t : ct_at T n p i G cs H ms) : px_str G0 c0 (fun b => Sd b ∨ ((tk_K T n p = 1 ∨ tk_K T n p = 3) ∧ tk_B T n p = b)) H ms := by
  obtain ⟨h1, h2, h3, h4, h5, h6⟩ := h
  obtain ⟨_, _, _, t4, t5, t6, _⟩ := t
  by_cases q : tk_K T n p = 1 ∨ tk_K T n p = 3
  · obtain ⟨s0, s1, s2, s3, s4, s5, s6⟩ := t5 q
    have hlen := st_with_len cs (tk_B T n p)
    rw [← s4] at hlen
    have hget : ∀ s, s < cs.length → ms.getD s [] = cs.getD s [] := fun s hs => by
      rw [s4]
      exact st_with_get _ _ hs
    have hnd := t6.2.2.1.2.2.2.2
    have uniq : ∀ s, s < ms.length → ms.getD s [] = tk_B T n p → s = s0 := fun s hs e => by
      by_cases z : s = s0
      · exact z
      · exfalso
        by_cases z2 : s < s0
        · exact hnd s s0 z2 s2 (e.trans s3.symm)
        · exact hnd s0 s (by omega) hs (s3.trans e.symm)
    refine ⟨fun s hs => by rw [hget s (by omega)]; exact h1 s hs, by omega, fun s hs hl => ?_, fun s hs => ?_, fun s hs => ?_, s5⟩
    · by_cases z : s = s0
      · rw [z, s3]
        refine ⟨Or.inr ⟨q, rfl⟩, ?_⟩
        rw [s6, if_pos rfl]
        by_cases y : s0 < cs.length
        · have h9 := (h3 s0 (by omega) y).2
          rw [if_pos y, h9, if_neg (by decide)]
        · rw [if_neg y]
      · have y : s < cs.length := by
          by_cases y : s < cs.length
          · exact y
          · exfalso
            have e1 : s = cs.length := by omega
            have e2 : ms = cs ++ [tk_B T n p] := by
              unfold st_with at s4
              cases hi : st_ix cs (tk_B T n p) with
              | none =>
                rw [hi] at s4
                have s4 : ms = cs ++ [tk_B T n p] := s4
                exact s4
              | some u =>
                rw [hi] at s4
                have s4 : ms = cs := s4
                rw [s4] at hl
                omega
            apply z
            apply uniq s hl
            rw [e2, e1, st_getD_last]
        rw [hget s y]
        refine ⟨Or.inl (h3 s hs y).1, ?_⟩
        rw [s6, if_neg z]
        exact (h3 s hs y).2
    · rw [s6]
      have h4 := h4 s hs
      by_cases z : s = s0
      · rw [if_pos z, if_pos (by omega)]
        by_cases y : G 9 s = 2
        · rw [if_pos y]
          right
          exact ⟨by omega, rfl⟩
        · rw [if_neg y]
          exact h4
      · rw [if_neg z]
        exact h4
    · rw [s6]
      have h4 := h4 s hs
      have h5 := h5 s hs
      by_cases z : s = s0
      · have hB : tk_B T n p = c0.getD s [] := by
          rw [← s3, ← z, hget s (by omega)]
          exact h1 s hs
        rw [if_pos z, if_pos (by omega)]
        constructor
        · intro w
          exact ⟨w.1, Or.inr ⟨q, hB⟩⟩
        · intro w
          refine ⟨w.1, ?_⟩
          by_cases y : G 9 s = 2
          · rw [if_pos y]
          · rw [if_neg y]
            have := w.1
            omega
      · rw [if_neg z]
        constructor
        · intro w
          exact ⟨w.1, Or.inl (h5.mp w).2⟩
        · intro w
          rcases w.2 with w2 | w2
          · exact h5.mpr ⟨w.1, w2⟩
          · exfalso
            apply z
            apply uniq s (by omega)
            rw [hget s (by omega), h1 s hs]
            exact w2.2.symm
  · obtain ⟨a1, a2, a3⟩ := t4 q
    subst a1
    refine ⟨h1, h2, fun s hs hl => ⟨Or.inl (h3 s hs hl).1, by rw [a2]; exact (h3 s hs hl).2⟩, fun s hs => by rw [a2]; exact h4 s hs, fun s hs => ?_, a3.trans h6⟩
    rw [a2, h5 s hs]
    exact ⟨fun w => ⟨w.1, Or.inl w.2⟩, fun w => ⟨w.1, w.2.resolve_right (fun z => q z.1)⟩⟩
theorem px_str_imp {G0 G : wq_F} {c0 cs : List (List Nat)} {Sd Sd' : List Nat → Prop} (h : px_str G0 c0 Sd G cs) (e : ∀ b, Sd b ↔ Sd' b) : px_str G0 c0 Sd' G cs := by
  have : Sd = Sd' := funext fun b => propext (e b)
  rw [← this]
  exact h
theorem cs_w_with {ls : List (List Nat)} {b : List Nat} (h : cs_w ls) : cs_w (st_with ls b) := by
  have hl := st_with_len ls b
  refine ⟨by have := h.1; omega, fun t ht => ?_⟩
  rw [st_with_get ls b (by have := h.1; omega)]
  exact h.2 t ht
theorem tk_ty_5 {T : Nat → Nat} {n p : Nat} : ¬ tk_ty T n p = 5 := by
  unfold tk_ty
  by_cases a : tk_K T n p = 1
  · rw [if_pos a]; decide
  rw [if_neg a]
  by_cases b : tk_K T n p = 2
  · rw [if_pos b]; decide
  rw [if_neg b]
  by_cases c : tk_K T n p = 3
  · rw [if_pos c]; decide
  rw [if_neg c]
  by_cases d : tk_K T n p = 4
  · rw [if_pos d]; omega
  rw [if_neg d]
  by_cases e : tk_K T n p = 5
  · rw [if_pos e]
    unfold lx_sg
    repeat' first | (apply wd_ne1 <;> intro _) | decide | omega
  rw [if_neg e]
  by_cases f : tk_K T n p = 6
  · rw [if_pos f]; decide
  · rw [if_neg f]; decide
theorem tk_ty_0 {T : Nat → Nat} {n p : Nat} : tk_ty T n p = 0 ↔ tk_K T n p = 6 := by
  unfold tk_ty
  by_cases a : tk_K T n p = 1
  · rw [if_pos a]; omega
  rw [if_neg a]
  by_cases b : tk_K T n p = 2
  · rw [if_pos b]; omega
  rw [if_neg b]
  by_cases c : tk_K T n p = 3
  · rw [if_pos c]; omega
  rw [if_neg c]
  by_cases d : tk_K T n p = 4
  · rw [if_pos d]; omega
  rw [if_neg d]
  by_cases e : tk_K T n p = 5
  · rw [if_pos e]
    have : ¬ lx_sg (tk_V T n p) = 0 := by
      unfold lx_sg
      repeat' first | (apply wd_ne1 <;> intro _) | decide | omega
    omega
  rw [if_neg e]
  by_cases f : tk_K T n p = 6
  · rw [if_pos f]; omega
  · rw [if_neg f]; omega
theorem tk_K6 {T : Nat → Nat} {n p : Nat} : tk_K T n p = 6 ↔ ¬ p < n := by
  constructor
  · intro h hp
    have hK := tk_K_in (T := T) hp
    rw [h] at hK
    by_cases a : ¬ lx_letter (T p) = 0
    · rw [if_pos a] at hK
      by_cases b : 0 < lx_word (tk_nb T n p)
      · rw [if_pos b] at hK; cases hK
      · rw [if_neg b] at hK
        by_cases c : 30 < tk_e T n p - p
        · rw [if_pos c] at hK; cases hK
        · rw [if_neg c] at hK; cases hK
    · rw [if_neg a] at hK
      by_cases b : ¬ lx_digit (T p) = 0
      · rw [if_pos b] at hK
        have := (lx_num_b hp b).1
        omega
      · rw [if_neg b] at hK
        by_cases c : T p = 34 ∨ T p = 39
        · rw [if_pos c] at hK
          by_cases d : (lx_str T n p).2.2 = 1 ∧ lx_at T n (lx_str T n p).2.1 = T p ∧ (lx_str T n p).1.length ≤ 200
          · rw [if_pos d] at hK; cases hK
          · rw [if_neg d] at hK; cases hK
        · rw [if_neg c] at hK
          by_cases d : (lx_sgn T n p).1 = 0
          · rw [if_pos d] at hK; cases hK
          · rw [if_neg d] at hK; cases hK
  · intro h
    exact if_pos h
/-- the strings that were there stay as they were -/
def st_pre (cs ms : List (List Nat)) : Prop := cs.length ≤ ms.length ∧ ∀ s, s < cs.length → ms.getD s [] = cs.getD s []
theorem st_pre_refl (cs : List (List Nat)) : st_pre cs cs := ⟨Nat.le_refl _, fun _ _ => rfl⟩
theorem st_pre_trans {a b c : List (List Nat)} (h : st_pre a b) (g : st_pre b c) : st_pre a c := ⟨Nat.le_trans h.1 g.1, fun s hs => (g.2 s (Nat.lt_of_lt_of_le hs h.1)).trans (h.2 s hs)⟩
/-- from a token's end to the next token -/
theorem px_go {nn : Nat} {T : Nat → Nat} {n O i e : Nat} {G0 G : wq_F} {c0 cs : List (List Nat)} {Sd : List Nat → Prop} (hn6 : n ≤ 6000) (hC : ∀ j, j < n → T j < 256) (hp : tk_pos T n i = lx_skip T n (n + 1) e) (he : e ≤ n) (h0 : G 56 4 = 0) (h4 : ¬ G 57 4 = 5) (h3 : G 57 3 = e) (h6 : G 57 6 = 1 + lc T e) (h7 : G 57 7 = i) (hi : i < 100000) (hR : cs_ok G cs) (hw : cs_w cs) (hF : G 57 2 = n) (hT : ∀ i, i < n → G 1 i = ev_b8 (T i)) (hl : cs.length ≤ c0.length + i) (ho : st_off cs cs.length ≤ O + e) (hs : px_str G0 c0 Sd G cs) (hsd : ∀ b, (Sd b ∨ ((tk_k T n i = 1 ∨ tk_k T n i = 3) ∧ tk_B T n (tk_pos T n i) = b)) ↔ tk_said T n i b) (hn : 6002 < nn) (hc0 : c0.length ≤ 1400) (hi2 : i ≤ 1501) (hO : O ≤ 20000) :
    ∃ H ms, dk_77_28 nn G = some (0, H) ∧ px_at T n G0 c0 O i H ms ∧ px_fr G H ∧ st_pre cs ms := by
  obtain ⟨H, ms, d, t⟩ := dkS_77_28 (nn := nn) (ls := cs) h4 hF hn6 (fun j hj => ⟨hT j hj, hC j hj⟩) h3 he h6 h7 hi hR hw hn (by omega) (by omega) (by omega)
  rw [← hp] at t
  have hst := px_str_imp (px_str_ct hs t) hsd
  have hge : e ≤ tk_pos T n i := by rw [hp]; exact lx_skip_ge _ _
  have hk6 : tk_k T n i = 6 ↔ ¬ tk_pos T n i < n := tk_K6
  obtain ⟨⟨t1, t1b, t1c, t1d⟩, t2, t3, t4, t5, t6, t7⟩ := t
  have hlen : ms.length ≤ cs.length + 1 ∧ cs_w ms := by
    by_cases q : tk_K T n (tk_pos T n i) = 1 ∨ tk_K T n (tk_pos T n i) = 3
    · obtain ⟨s, _, _, _, e4, _⟩ := t5 q
      rw [e4]
      exact ⟨(st_with_len _ _).2, cs_w_with hw⟩
    · rw [(t4 q).1]
      exact ⟨Nat.le_succ _, hw⟩
  have hoff : st_off ms ms.length ≤ O + tk_X T n i := by
    unfold tk_X
    by_cases q : tk_K T n (tk_pos T n i) = 1 ∨ tk_K T n (tk_pos T n i) = 3
    · obtain ⟨s, _, _, _, e4, _⟩ := t5 q
      have h1 := st_with_off cs (tk_B T n (tk_pos T n i))
      rw [← e4] at h1
      have h2 := tk_B_len q
      have h5 := tk_E_b (T := T) (n := n) (p := tk_pos T n i) (by omega) (by omega)
      rw [if_neg (show ¬ (tk_k T n i = 6 ∨ tk_k T n i = 7) from fun z => by
        have z : tk_K T n (tk_pos T n i) = 6 ∨ tk_K T n (tk_pos T n i) = 7 := z
        omega)]
      omega
    · rw [(t4 q).1]
      by_cases z : tk_k T n i = 6 ∨ tk_k T n i = 7
      · rw [if_pos z]; omega
      · rw [if_neg z]
        have h5 := tk_E_b (T := T) (n := n) (p := tk_pos T n i) (fun y => z (Or.inl y)) (fun y => z (Or.inr y))
        omega
  have hpre : st_pre cs ms := by
    by_cases q : tk_K T n (tk_pos T n i) = 1 ∨ tk_K T n (tk_pos T n i) = 3
    · obtain ⟨s, _, _, _, e4, _⟩ := t5 q
      rw [e4]
      exact ⟨(st_with_len _ _).1, fun s hs => st_with_get _ _ hs⟩
    · rw [(t4 q).1]
      exact st_pre_refl _
  refine ⟨H, ms, d, ⟨?_, ⟨t1, t1b, t1c, ?_⟩, t2, t3, fun q => ?_, ⟨t6, hlen.2, by omega, hoff, ?_, fun j hj => ?_⟩, hst⟩, t7, hpre⟩
  · rw [t7 56 4 (by decide) (by decide) (by decide)]
    exact h0
  · rw [t1d]
    by_cases q : tk_pos T n i < n
    · rw [if_pos q, if_neg (fun z => hk6.mp z q)]
    · rw [if_neg q, if_pos (hk6.mpr q)]
  · obtain ⟨s, a1, a2, a3, _⟩ := t5 q
    exact ⟨s, a1, a2, a3⟩
  · rw [t7 57 2 (by decide) (by decide) (by decide)]
    exact hF
  · rw [t7 1 j (by decide) (by omega) (by omega)]
    exact hT j hj
theorem px_fr_refl (G : wq_F) : px_fr G G := fun _ _ _ _ _ => rfl
theorem tk_said_s {T : Nat → Nat} {n i : Nat} {b : List Nat} : (tk_said T n i b ∨ ((tk_k T n (i + 1) = 1 ∨ tk_k T n (i + 1) = 3) ∧ tk_B T n (tk_pos T n (i + 1)) = b)) ↔ tk_said T n (i + 1) b := by
  constructor
  · intro h
    rcases h with ⟨j, h1, h2⟩ | h
    · exact ⟨j, by omega, h2⟩
    · exact ⟨i + 1, Nat.le_refl _, h⟩
  · intro ⟨j, h1, h2⟩
    by_cases z : j = i + 1
    · subst z
      exact Or.inr h2
    · exact Or.inl ⟨j, by omega, h2⟩
theorem tk_said_0 {T : Nat → Nat} {n : Nat} {b : List Nat} : (False ∨ ((tk_k T n 0 = 1 ∨ tk_k T n 0 = 3) ∧ tk_B T n (tk_pos T n 0) = b)) ↔ tk_said T n 0 b := by
  constructor
  · intro h
    exact ⟨0, Nat.le_refl _, h.resolve_left id⟩
  · intro ⟨j, h1, h2⟩
    have : j = 0 := by omega
    subst this
    exact Or.inr h2
/-- the class takes a token -/
theorem px_next {nn : Nat} {T : Nat → Nat} {n M O i : Nat} {G0 G : wq_F} {c0 cs : List (List Nat)} (hM : tk_M T n M) (h : px_at T n G0 c0 O i G cs) (hi : i < M) (hn : 6002 < nn) (hc0 : c0.length ≤ 1400) (hO : O ≤ 20000) : ∃ H ms, dk_77 nn G = some (0, H) ∧ px_at T n G0 c0 O (i + 1) H ms ∧ px_fr G H ∧ st_pre cs ms := by
  obtain ⟨h0, ⟨h1, h2, h3, h4⟩, h5, h6, h7, ⟨h8, h9, h10, h11, h12, h13⟩, h14⟩ := h
  have hk := tk_M_k hM hi
  have hb := tk_E_b hk.1 hk.2
  have hMb := hM.1
  rw [if_neg (show ¬ tk_k T n i = 6 from hk.1)] at h4
  have hX : tk_X T n i = tk_E T n (tk_pos T n i) := if_neg (fun z => z.elim hk.1 hk.2)
  rw [hX] at h11
  unfold dk_77
  rw [h4, if_neg (fun z => absurd ((wd_slt (by decide) (by omega)).mp z) (by omega))]
  exact px_go (i := i + 1) (e := tk_E T n (tk_pos T n i)) (Sd := tk_said T n i) hM.2.2.2.1 hM.2.2.2.2 rfl hb.2.2.1 h0 (by rw [h1]; exact tk_ty_5) (h5 hk) (by rw [h3, lc_same (Nat.le_of_lt hb.2.1) hb.2.2.2]) h4 (by omega) h8 h9 h12 h13 (by omega) h11 h14 (fun b => tk_said_s) hn hc0 (by omega) hO
/-- a token too much -/
theorem px_last {nn : Nat} {T : Nat → Nat} {n M O : Nat} {G0 G : wq_F} {c0 cs : List (List Nat)} (h : px_at T n G0 c0 O 1500 G cs) (hk : ¬ tk_k T n 1500 = 6) : ∃ H, dk_77 nn G = some (0, H) ∧ ps_at 3 (tk_pos T n 1500) (1 + lc T (tk_pos T n 1500)) H ∧ (∀ d j, ¬ (d = 56 ∧ (j = 4 ∨ j = 5 ∨ j = 6)) → ¬ (d = 57 ∧ j = 4) → H d j = G d j) := by
  obtain ⟨h0, ⟨h1, h2, h3, h4⟩, _⟩ := h
  rw [if_neg hk] at h4
  obtain ⟨H, d, hs, hf⟩ := px_refuse (G := G) (c := 3) h0 (by decide) (by omega)
  rw [if_neg (show ¬ (3 = 2 ∧ G 57 4 = 1) from fun z => absurd z.1 (by decide)), if_neg (show ¬ (3 = 4 ∧ 1500 < G 57 7) from fun z => absurd z.1 (by decide)), h2, h3] at hs
  refine ⟨H, ?_, hs, hf⟩
  unfold dk_77
  rw [h4, if_pos ((wd_slt (by decide) (by decide)).mpr (by decide)), if_neg (fun z => hk (tk_ty_0.mp (h1.symm.trans z))), d, od_bS]
  dsimp only
  have h73 : dk_73 nn H = some (5, H) := if_pos hs.1
  unfold dk_77_28
  rw [h73, od_bS]
  dsimp only
  rw [if_neg (by decide), if_neg (by decide), if_neg (by decide), if_neg (by decide)]
