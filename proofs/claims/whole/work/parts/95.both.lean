/-! ===== 95: kinds on both sides; taking, awaiting, refusing a token on both sides (wip/whole2/95.txt) ===== -/
/-- all signs -/
def lx_signs : List Nat := [43, 45, 42, 37, 38, 124, 126, 60, 62, 61, 35, 40, 41, 123, 125, 91, 93, 59, 58, 44, 46, 300, 301, 302, 303, 304, 305, 306, 307, 308]
theorem lx_sg_inj : ∀ v ∈ lx_signs, ∀ c ∈ lx_signs, lx_sg v = lx_sg c → v = c := by decide
theorem lx_sg_ge : ∀ v ∈ lx_signs, 40 ≤ lx_sg v ∧ lx_sg v < 70 := by decide
theorem lx_ix_sign {c : Nat} (h : ¬ lx_ix c = 4294967295) : c ∈ lx_signs := by
  by_cases q : c = 43 ∨ c = 45 ∨ c = 42 ∨ c = 37 ∨ c = 38 ∨ c = 124 ∨ c = 126 ∨ c = 60 ∨ c = 62 ∨ c = 61 ∨ c = 35 ∨ c = 40 ∨ c = 41 ∨ c = 123 ∨ c = 125 ∨ c = 91 ∨ c = 93 ∨ c = 59 ∨ c = 58 ∨ c = 44 ∨ c = 46
  · rcases q with e | e | e | e | e | e | e | e | e | e | e | e | e | e | e | e | e | e | e | e | e <;> (subst e; decide)
  · exfalso
    apply h
    unfold lx_ix
    rw [if_neg (by omega), if_neg (by omega), if_neg (by omega), if_neg (by omega), if_neg (by omega), if_neg (by omega), if_neg (by omega), if_neg (by omega), if_neg (by omega), if_neg (by omega), if_neg (by omega), if_neg (by omega), if_neg (by omega), if_neg (by omega), if_neg (by omega), if_neg (by omega), if_neg (by omega), if_neg (by omega), if_neg (by omega), if_neg (by omega), if_neg (by omega)]
theorem lx_p0_sign {c d : Nat} (h : ¬ lx_p0 c d = 0) : lx_p0 c d ∈ lx_signs := by
  have h1 : lx_p0 c d = 302 ∨ lx_p0 c d = 303 ∨ lx_p0 c d = 304 ∨ lx_p0 c d = 305 ∨ lx_p0 c d = 306 ∨ lx_p0 c d = 307 ∨ lx_p0 c d = 308 ∨ lx_p0 c d = 300 := by
    unfold lx_p0 lx_p1 lx_p2 lx_p3 lx_p4 lx_p5 lx_p6 lx_p7 at h ⊢
    by_cases h0 : c = 61 ∧ d = 61
    · rw [if_pos h0]; decide
    rw [if_neg h0] at h ⊢
    by_cases h1 : c = 126 ∧ d = 61
    · rw [if_pos h1]; decide
    rw [if_neg h1] at h ⊢
    by_cases h2 : c = 60 ∧ d = 61
    · rw [if_pos h2]; decide
    rw [if_neg h2] at h ⊢
    by_cases h3 : c = 62 ∧ d = 61
    · rw [if_pos h3]; decide
    rw [if_neg h3] at h ⊢
    by_cases h4 : c = 60 ∧ d = 60
    · rw [if_pos h4]; decide
    rw [if_neg h4] at h ⊢
    by_cases h5 : c = 62 ∧ d = 62
    · rw [if_pos h5]; decide
    rw [if_neg h5] at h ⊢
    by_cases h6 : c = 47 ∧ d = 47
    · rw [if_pos h6]; decide
    rw [if_neg h6] at h ⊢
    by_cases h7 : c = 46 ∧ d = 46
    · rw [if_pos h7]; decide
    rw [if_neg h7] at h
    exact absurd rfl h
  rcases h1 with e | e | e | e | e | e | e | e <;> (rw [e]; decide)
theorem lx_sgn_sign {T : Nat → Nat} {n p : Nat} (h : ¬ (lx_sgn T n p).1 = 0) : (lx_sgn T n p).1 ∈ lx_signs := by
  unfold lx_sgn at h ⊢
  by_cases a : lx_at T n p = 46 ∧ lx_at T n (p + 1) = 46 ∧ lx_at T n (p + 2) = 46
  · rw [if_pos a]
    show 301 ∈ lx_signs
    decide
  · rw [if_neg a] at h ⊢
    by_cases b : 0 < lx_p0 (lx_at T n p) (lx_at T n (p + 1))
    · rw [if_pos b]
      exact lx_p0_sign (by omega)
    · rw [if_neg b] at h ⊢
      have h : ¬ (if lx_ix (lx_at T n p) = 4294967295 then 0 else lx_at T n p) = 0 := h
      show (if lx_ix (lx_at T n p) = 4294967295 then 0 else lx_at T n p) ∈ lx_signs
      by_cases c : lx_ix (lx_at T n p) = 4294967295
      · rw [if_pos c] at h
        exact absurd rfl h
      · rw [if_neg c]
        exact lx_ix_sign c
/-- a word's value, a sign's value -/
theorem tk_V4 {T : Nat → Nat} {n p : Nat} (h : tk_K T n p = 4) : 1 ≤ tk_V T n p ∧ tk_V T n p ≤ 21 := by
  have hp : p < n := by
    by_cases z : p < n
    · exact z
    · have := (tk_K6 (T := T)).mpr z
      omega
  have hK := tk_K_in (T := T) hp
  rw [h] at hK
  unfold tk_V
  by_cases a : ¬ lx_letter (T p) = 0
  · rw [if_pos a]
    rw [if_pos a] at hK
    have hw := lx_word_lt (tk_nb T n p)
    by_cases b : 0 < lx_word (tk_nb T n p)
    · omega
    · rw [if_neg b] at hK
      by_cases c : 30 < tk_e T n p - p
      · rw [if_pos c] at hK; cases hK
      · rw [if_neg c] at hK; cases hK
  · exfalso
    rw [if_neg a] at hK
    by_cases b : ¬ lx_digit (T p) = 0
    · rw [if_pos b] at hK
      have := (lx_num_b hp b).1
      omega
    · rw [if_neg b] at hK
      by_cases c : T p = 34 ∨ T p = 39
      · rw [if_pos c] at hK
        by_cases d : (lx_str T n p).2.2 = 1 ∧ lx_at T n (lx_str T n p).2.1 = T p ∧ (lx_str T n p).1.length ≤ 200
        · rw [if_pos d] at hK; cases hK
        · rw [if_neg d] at hK; cases hK
      · rw [if_neg c] at hK
        by_cases d : (lx_sgn T n p).1 = 0
        · rw [if_pos d] at hK; cases hK
        · rw [if_neg d] at hK; cases hK
theorem tk_V5 {T : Nat → Nat} {n p : Nat} (h : tk_K T n p = 5) : tk_V T n p ∈ lx_signs := by
  have hp : p < n := by
    by_cases z : p < n
    · exact z
    · have := (tk_K6 (T := T)).mpr z
      omega
  have hK := tk_K_in (T := T) hp
  rw [h] at hK
  unfold tk_V
  by_cases a : ¬ lx_letter (T p) = 0
  · exfalso
    rw [if_pos a] at hK
    by_cases b : 0 < lx_word (tk_nb T n p)
    · rw [if_pos b] at hK; cases hK
    · rw [if_neg b] at hK
      by_cases c : 30 < tk_e T n p - p
      · rw [if_pos c] at hK; cases hK
      · rw [if_neg c] at hK; cases hK
  · rw [if_neg a] at hK ⊢
    by_cases b : ¬ lx_digit (T p) = 0
    · exfalso
      rw [if_pos b] at hK
      have := (lx_num_b hp b).1
      omega
    · rw [if_neg b] at hK ⊢
      by_cases c : T p = 34 ∨ T p = 39
      · exfalso
        rw [if_pos c] at hK
        by_cases d : (lx_str T n p).2.2 = 1 ∧ lx_at T n (lx_str T n p).2.1 = T p ∧ (lx_str T n p).1.length ≤ 200
        · rw [if_pos d] at hK; cases hK
        · rw [if_neg d] at hK; cases hK
      · rw [if_neg c] at hK
        by_cases d : (lx_sgn T n p).1 = 0
        · rw [if_pos d] at hK; cases hK
        · exact lx_sgn_sign d
theorem tk_K17 {T : Nat → Nat} {n p : Nat} : 1 ≤ tk_K T n p ∧ tk_K T n p ≤ 7 := by
  by_cases hp : p < n
  · rw [tk_K_in hp]
    by_cases a : ¬ lx_letter (T p) = 0
    · rw [if_pos a]
      by_cases b : 0 < lx_word (tk_nb T n p)
      · rw [if_pos b]; decide
      · rw [if_neg b]
        by_cases c : 30 < tk_e T n p - p
        · rw [if_pos c]; decide
        · rw [if_neg c]; decide
    · rw [if_neg a]
      by_cases b : ¬ lx_digit (T p) = 0
      · rw [if_pos b]
        have := (lx_num_b hp b).1
        omega
      · rw [if_neg b]
        by_cases c : T p = 34 ∨ T p = 39
        · rw [if_pos c]
          by_cases d : (lx_str T n p).2.2 = 1 ∧ lx_at T n (lx_str T n p).2.1 = T p ∧ (lx_str T n p).1.length ≤ 200
          · rw [if_pos d]; decide
          · rw [if_neg d]; decide
        · rw [if_neg c]
          by_cases d : (lx_sgn T n p).1 = 0
          · rw [if_pos d]; decide
          · rw [if_neg d]; decide
  · rw [tk_K6.mpr hp]
    decide
/-- the class's number of a token, by its kind -/
theorem tk_ty_all {T : Nat → Nat} {n p : Nat} : (tk_K T n p = 1 ∧ tk_ty T n p = 2) ∨ (tk_K T n p = 2 ∧ tk_ty T n p = 3) ∨ (tk_K T n p = 3 ∧ tk_ty T n p = 4) ∨ (tk_K T n p = 4 ∧ tk_ty T n p = 9 + tk_V T n p ∧ 1 ≤ tk_V T n p ∧ tk_V T n p ≤ 21) ∨ (tk_K T n p = 5 ∧ tk_ty T n p = lx_sg (tk_V T n p) ∧ tk_V T n p ∈ lx_signs ∧ 40 ≤ tk_ty T n p ∧ tk_ty T n p < 70) ∨ (tk_K T n p = 6 ∧ tk_ty T n p = 0) ∨ (tk_K T n p = 7 ∧ tk_ty T n p = 1) := by
  have h17 := tk_K17 (T := T) (n := n) (p := p)
  unfold tk_ty
  rcases (show tk_K T n p = 1 ∨ tk_K T n p = 2 ∨ tk_K T n p = 3 ∨ tk_K T n p = 4 ∨ tk_K T n p = 5 ∨ tk_K T n p = 6 ∨ tk_K T n p = 7 by omega) with e | e | e | e | e | e | e
  · left; rw [e]; exact ⟨rfl, rfl⟩
  · right; left; rw [e]; exact ⟨rfl, rfl⟩
  · right; right; left; rw [e]; exact ⟨rfl, rfl⟩
  · right; right; right; left
    have := tk_V4 e
    rw [e]
    exact ⟨rfl, rfl, this.1, this.2⟩
  · right; right; right; right; left
    have h5 := tk_V5 e
    have := lx_sg_ge _ h5
    rw [e]
    exact ⟨rfl, rfl, h5, this.1, this.2⟩
  · right; right; right; right; right; left; rw [e]; exact ⟨rfl, rfl⟩
  · right; right; right; right; right; right; rw [e]; exact ⟨rfl, rfl⟩
theorem tk_ty_sign {T : Nat → Nat} {n p c : Nat} (hc : c ∈ lx_signs) : tk_ty T n p = lx_sg c ↔ tk_K T n p = 5 ∧ tk_V T n p = c := by
  have hg := lx_sg_ge c hc
  constructor
  · intro h
    rcases tk_ty_all (T := T) (n := n) (p := p) with e | e | e | e | e | e | e
    · omega
    · omega
    · omega
    · omega
    · exact ⟨e.1, lx_sg_inj _ e.2.2.1 c hc (e.2.1.symm.trans h)⟩
    · omega
    · omega
  · intro ⟨h1, h2⟩
    unfold tk_ty
    rw [h1, h2]
    rfl
theorem tk_ty_word {T : Nat → Nat} {n p w : Nat} (hw : 1 ≤ w ∧ w ≤ 21) : tk_ty T n p = 9 + w ↔ tk_K T n p = 4 ∧ tk_V T n p = w := by
  constructor
  · intro h
    rcases tk_ty_all (T := T) (n := n) (p := p) with e | e | e | e | e | e | e <;> omega
  · intro ⟨h1, h2⟩
    unfold tk_ty
    rw [h1, h2]
    rfl
theorem tk_ty_kind {T : Nat → Nat} {n p : Nat} : (tk_ty T n p = 2 ↔ tk_K T n p = 1) ∧ (tk_ty T n p = 3 ↔ tk_K T n p = 2) ∧ (tk_ty T n p = 4 ↔ tk_K T n p = 3) ∧ (tk_ty T n p = 1 ↔ tk_K T n p = 7) := by
  rcases tk_ty_all (T := T) (n := n) (p := p) with e | e | e | e | e | e | e <;> omega
/-- both parsers at token i -/
def pr_at (T : Nat → Nat) (n M : Nat) (G0 : wq_F) (c0 : List (List Nat)) (O i : Nat) (F : wq_F) (ls : List (List Nat)) (G : wq_F) (cs : List (List Nat)) : Prop := pm_at T n M i F ls ∧ px_at T n G0 c0 O i G cs
/-- what refusing leaves as it was -/
def px_fs (G H : wq_F) : Prop := ∀ d j, ¬ (d = 56 ∧ (j = 4 ∨ j = 5 ∨ j = 6)) → ¬ (d = 57 ∧ j = 4) → H d j = G d j
/-- both take the token -/
theorem pt_take {nn : Nat} {T : Nat → Nat} {n M O i : Nat} {G0 F G : wq_F} {c0 ls cs : List (List Nat)} (hM : tk_M T n M) (h : pr_at T n M G0 c0 O i F ls G cs) (h6 : ¬ tk_k T n i = 6) (h7 : ¬ tk_k T n i = 7) (hn : 6002 < nn) (hc0 : c0.length ≤ 1400) (hO : O ≤ 20000) :
    (∃ H ms, dk_212 F = some (1, wq_up F 0 25 (i + 1)) ∧ dk_77 nn G = some (0, H) ∧ pr_at T n M G0 c0 O (i + 1) (wq_up F 0 25 (i + 1)) ls H ms ∧ px_fr G H ∧ st_pre cs ms) ∨
    (∃ H, dk_212 F = some (0, pm_f F 3 (tk_pos T n i)) ∧ dk_77 nn G = some (0, H) ∧ ps_at 3 (tk_pos T n i) (1 + lc T (tk_pos T n i)) H ∧ px_fs G H) := by
  have hiM := h.1.2.2.1
  have hM1 := hM.1
  rw [pm_take hM h.1 h7]
  by_cases q : i = 1500
  · right
    subst q
    obtain ⟨H, d, hs, hf⟩ := px_last (nn := nn) (M := M) h.2 h6
    exact ⟨H, if_pos rfl, d, hs, hf⟩
  · left
    have hlt : i < M := by
      by_cases z : i = M
      · exfalso
        rcases hM.2.2.1 with e | e | e
        · omega
        · exact h6 (by rw [z]; exact e)
        · exact h7 (by rw [z]; exact e)
      · omega
    obtain ⟨H, ms, d, hx, hf⟩ := px_next (nn := nn) hM h.2 hlt hn hc0 hO
    exact ⟨H, ms, if_neg q, d, ⟨pm_next h.1 hlt, hx⟩, hf⟩
/-- both refuse the token -/
theorem pt_wrong {T : Nat → Nat} {n M O i : Nat} {G0 F G : wq_F} {c0 ls cs : List (List Nat)} (hM : tk_M T n M) (h : pr_at T n M G0 c0 O i F ls G cs) :
    ∃ H, dk_211 F = some (0, pm_f F (tk_wr T n i) (tk_pos T n i)) ∧ dk_109 G 2 = some (0, H) ∧ ps_at (tk_wr T n i) (tk_pos T n i) (1 + lc T (tk_pos T n i)) H ∧ px_fs G H := by
  have hi := h.1.2.2.1
  have hM1 := hM.1
  obtain ⟨h0, ⟨h1, h2, h3, h4⟩, _⟩ := h.2
  have h4' : G 57 7 < 2147483648 := by
    rw [h4]
    exact wd_ite (by omega) (by omega)
  obtain ⟨H, d, hs, hf⟩ := px_refuse (G := G) (c := 2) h0 (by decide) h4'
  refine ⟨H, pm_wrong hM h.1, d, ?_, hf⟩
  rw [h2, h3, h1] at hs
  unfold tk_wr
  by_cases q : tk_k T n i = 7
  · rw [if_pos ⟨rfl, tk_ty_kind.2.2.2.mpr q⟩] at hs
    rw [if_pos q]
    exact hs
  · rw [if_neg (fun z => q (tk_ty_kind.2.2.2.mp z.2)), if_neg (fun z => absurd z.1 (by decide))] at hs
    rw [if_neg q]
    exact hs
/-- both fail with 3 or 4 at this token -/
theorem pt_fail3 {T : Nat → Nat} {n M O i : Nat} {G0 F G : wq_F} {c0 ls cs : List (List Nat)} (hM : tk_M T n M) (h : pr_at T n M G0 c0 O i F ls G cs) :
    ∃ H, dk_209 F 3 (tk_pos T n i) = some (0, pm_f F 3 (tk_pos T n i)) ∧ dk_109 G 3 = some (0, H) ∧ ps_at 3 (tk_pos T n i) (1 + lc T (tk_pos T n i)) H ∧ px_fs G H := by
  have hi := h.1.2.2.1
  have hM1 := hM.1
  obtain ⟨h0, ⟨h1, h2, h3, h4⟩, _⟩ := h.2
  have h4' : G 57 7 < 2147483648 := by
    rw [h4]
    exact wd_ite (by omega) (by omega)
  obtain ⟨H, d, hs, hf⟩ := px_refuse (G := G) (c := 3) h0 (by decide) h4'
  refine ⟨H, pm_fail h.1, d, ?_, hf⟩
  rw [h2, h3, if_neg (show ¬ (3 = 2 ∧ G 57 4 = 1) from fun z => absurd z.1 (by decide)), if_neg (show ¬ (3 = 4 ∧ 1500 < G 57 7) from fun z => absurd z.1 (by decide))] at hs
  exact hs
/-- the class's expect() against the reference's needSign -/
theorem pt_needSign {nn : Nat} {T : Nat → Nat} {n M O i c : Nat} {G0 F G : wq_F} {c0 ls cs : List (List Nat)} (hM : tk_M T n M) (h : pr_at T n M G0 c0 O i F ls G cs) (hc : c ∈ lx_signs) (hc2 : c < 2147483648) (hn : 6002 < nn) (hc0 : c0.length ≤ 1400) (hO : O ≤ 20000) :
    (∃ H ms, dk_213 F c = some (1, wq_up F 0 25 (i + 1)) ∧ dk_110 nn G (lx_sg c) = some (0, H) ∧ pr_at T n M G0 c0 O (i + 1) (wq_up F 0 25 (i + 1)) ls H ms ∧ px_fr G H ∧ st_pre cs ms) ∨
    (∃ H k, dk_213 F c = some (0, pm_f F k (tk_pos T n i)) ∧ dk_110 nn G (lx_sg c) = some (0, H) ∧ ps_at k (tk_pos T n i) (1 + lc T (tk_pos T n i)) H ∧ px_fs G H) := by
  have hty := h.2.2.1.1
  unfold dk_213 dk_110
  rw [pm_isSign hM h.1 hc2, od_bS]
  dsimp only
  by_cases q : tk_k T n i = 5 ∧ tk_V T n (tk_pos T n i) = c
  · rw [if_pos q, if_neg (by decide), if_pos (hty.trans ((tk_ty_sign hc).mpr q))]
    rcases pt_take (nn := nn) hM h (by omega) (by omega) hn hc0 hO with ⟨H, ms, a1, a2, a3, a4⟩ | ⟨H, a1, a2, a3, a4⟩
    · left
      refine ⟨H, ms, ?_, ?_, a3, a4⟩
      · rw [a1, od_bS]
      · rw [a2, od_bS]
    · right
      refine ⟨H, 3, ?_, ?_, a3, a4⟩
      · rw [a1, od_bS]
      · rw [a2, od_bS]
  · rw [if_neg q, if_pos rfl, if_neg (fun z => q ((tk_ty_sign hc).mp (hty.symm.trans z)))]
    obtain ⟨H, a1, a2, a3, a4⟩ := pt_wrong hM h
    right
    refine ⟨H, tk_wr T n i, ?_, ?_, a3, a4⟩
    · rw [a1, od_bS]
    · rw [a2, od_bS]
/-- the class's expect() against the reference's needWord -/
theorem pt_needWord {nn : Nat} {T : Nat → Nat} {n M O i w : Nat} {G0 F G : wq_F} {c0 ls cs : List (List Nat)} (hM : tk_M T n M) (h : pr_at T n M G0 c0 O i F ls G cs) (hw : 1 ≤ w ∧ w ≤ 21) (hn : 6002 < nn) (hc0 : c0.length ≤ 1400) (hO : O ≤ 20000) :
    (∃ H ms, dk_214 F w = some (1, wq_up F 0 25 (i + 1)) ∧ dk_110 nn G (9 + w) = some (0, H) ∧ pr_at T n M G0 c0 O (i + 1) (wq_up F 0 25 (i + 1)) ls H ms ∧ px_fr G H ∧ st_pre cs ms) ∨
    (∃ H k, dk_214 F w = some (0, pm_f F k (tk_pos T n i)) ∧ dk_110 nn G (9 + w) = some (0, H) ∧ ps_at k (tk_pos T n i) (1 + lc T (tk_pos T n i)) H ∧ px_fs G H) := by
  have hty := h.2.2.1.1
  unfold dk_214 dk_110
  rw [pm_isWord hM h.1 (by omega), od_bS]
  dsimp only
  by_cases q : tk_k T n i = 4 ∧ tk_V T n (tk_pos T n i) = w
  · rw [if_pos q, if_neg (by decide), if_pos (hty.trans ((tk_ty_word hw).mpr q))]
    rcases pt_take (nn := nn) hM h (by omega) (by omega) hn hc0 hO with ⟨H, ms, a1, a2, a3, a4⟩ | ⟨H, a1, a2, a3, a4⟩
    · left
      refine ⟨H, ms, ?_, ?_, a3, a4⟩
      · rw [a1, od_bS]
      · rw [a2, od_bS]
    · right
      refine ⟨H, 3, ?_, ?_, a3, a4⟩
      · rw [a1, od_bS]
      · rw [a2, od_bS]
  · rw [if_neg q, if_pos rfl, if_neg (fun z => q ((tk_ty_word hw).mp (hty.symm.trans z)))]
    obtain ⟨H, a1, a2, a3, a4⟩ := pt_wrong hM h
    right
    refine ⟨H, tk_wr T n i, ?_, ?_, a3, a4⟩
    · rw [a1, od_bS]
    · rw [a2, od_bS]
/-- the stopped class does nothing -/
theorem px_expect_stopped {nn k p l t : Nat} {G : wq_F} (h : ps_at k p l G) (ht : ¬ t = 5) : dk_110 nn G t = some (0, G) := by
  unfold dk_110
  rw [if_neg (fun z => ht (h.1.symm.trans z).symm), px_refused h, od_bS]
