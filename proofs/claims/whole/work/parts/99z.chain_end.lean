/-! ===== 99z: the end of a chain, and its reading (wip/whole2/law99z.py) ===== -/
/-- the call written last gives e values instead of one -/
def cal (cb : List Nat) (N : Nat) (A B : wq_F) (w s nw ns np : Nat) (c : List Nat) (H K : wq_F) (ls' cs' : List (List Nat)) (w' s' nw' ns' np' : Nat) (e : Nat) (d : List Nat) : Prop := pj ls' cs' (lvl N B) (B 62 (N - 1)) cb A B w s nw ns np c (wq_up H 21 (w' - 1) e) (wq_up K 14 (s' - 1) e) w' s' nw' ns' np' d [] []
/-- what a chain that begins where c stands ends with -/
def tlr (cb : List Nat) (N : Nat) (A B : wq_F) (w s nw ns np : Nat) (c : List Nat) (H K : wq_F) (ls' cs' : List (List Nat)) (w' s' nw' ns' np' : Nat) (c' : List Nat) : Prop :=
  (H 0 61 = 0 ∧ K 56 7 = 5 ∧ c' = c ∧ cx_at c (K 56 8) (H 0 62)) ∨
  (H 0 61 = 1 ∧ K 56 7 = 7 ∧ c' = c ∧ H 0 62 = K 56 8 ∧ H 0 62 < H 15 (B 62 (N - 1))) ∨
  (H 0 61 = 2 ∧ K 56 7 = 9 ∧ c' = c ∧ H 0 62 < ls'.length ∧ K 56 8 < cs'.length ∧ ls'.getD (H 0 62) [] = cs'.getD (K 56 8) []) ∨
  (H 0 61 = 3 ∧ K 56 7 = 11 ∧ c' = 0 :: 0 :: c ∧ K 56 8 = hg c ∧ H 0 63 = K 56 9) ∨
  (H 0 61 = 4 ∧ K 56 7 = 4294967294 ∧ c' = 0 :: c ∧ H 0 62 + 1 = w' ∧ w < w' ∧ s < s' ∧ cal cb N A B w s nw ns np c H K ls' cs' w' s' nw' ns' np' 4294967295 (2 :: c) ∧ cal cb N A B w s nw ns np c H K ls' cs' w' s' nw' ns' np' 0 c) ∨
  (H 0 61 = 5 ∧ K 56 7 = 4294967295 ∧ c' = 0 :: c)
section
variable {nn : Nat} {T : Nat → Nat} {n M O : Nat} {G0 : wq_F} {c0 : List (List Nat)} {i t w s nw ns np N : Nat} {off voff ph : Nat → Nat} {cx : Nat → List Nat} {c cb : List Nat} {W : List (Nat × Nat × Nat × Nat)} {L : List (Nat × Nat)} {P Q : List (Nat × Nat × Nat)} {ls cs : List (List Nat)} {F G : wq_F}
variable {i0 w0 s0 nw0 ns0 np0 : Nat} {ls0 cs0 : List (List Nat)} {A B : wq_F} {c' : List Nat}

/-- both read what the chain so far ends with -/
theorem dis_step (h : eg T n M G0 c0 O N off voff ph cx cb A B i0 ls0 cs0 w0 s0 nw0 ns0 np0 c t W L P Q F G i ls cs w s nw ns np c') (ht : tlr cb N A B w0 s0 nw0 ns0 np0 c F G ls cs w s nw ns np c') (h62 : ∀ l, l < N → B 62 l < np0) (hw : w < 13990) (hs : s < 9990) (hh : hg c < 100000) :
    ∃ F1, dk_223 F = some (0, F1) ∧ rm_fr F F1 ∧ wok (dk_136 G) (fun _ K => ∃ w1 s1, eg T n M G0 c0 O N off voff ph cx cb A B i0 ls0 cs0 w0 s0 nw0 ns0 np0 c t W L P Q F1 K i ls cs w1 s1 nw ns np (0 :: c) ∧ w ≤ w1 ∧ w1 ≤ w + 1 ∧ s ≤ s1 ∧ s1 ≤ s + 1 ∧ K 56 7 = 4294967295) := by
  have hw2 : F 0 41 = w := h.1.2.1.2.1
  have hnp := h.2.2.2.2.2.2
  have hN := h.2.2.1.1.1
  have hat := fun o a l => pm_em_at (F := F) (op := o) (a := a) (b := 0) (ln := l)
  rw [hw2] at hat
  have hf15 : B 62 (N - 1) = G 62 (N - 1) := (h.2.2.2.2.1.2.2.1 (N - 1) (by omega)).1.symm
  have name : ∀ y x, y < 3 → F 0 61 = y → x = G 56 7 → (x = 5 ∨ x = 7 ∨ x = 9) → c' = c → (∀ (H J : wq_F) (nm : Nat → Nat → Prop), H 20 w = 6 + y → H 21 w = F 0 62 → J 12 s = x → J 13 s = G 56 8 → F 15 (G 62 (N - 1)) ≤ H 15 (G 62 (N - 1)) → nmr ls cs nm → ∃ k, cs1 H J nm k (G 62 (N - 1)) w s c [(G 62 (N - 1), w + 1, s + 1, 0 :: c)]) →
      ∃ F1, dk_223 F = some (0, F1) ∧ rm_fr F F1 ∧ wok (dk_136 G) (fun _ K => ∃ w1 s1, eg T n M G0 c0 O N off voff ph cx cb A B i0 ls0 cs0 w0 s0 nw0 ns0 np0 c t W L P Q F1 K i ls cs w1 s1 nw ns np (0 :: c) ∧ w ≤ w1 ∧ w1 ≤ w + 1 ∧ s ≤ s1 ∧ s1 ≤ s + 1 ∧ K 56 7 = 4294967295) := fun y x hy e1 e2 e3 e4 hf => by
    subst e4
    refine ⟨pm_em F (6 + y) (F 0 62) 0 (F 0 63), ?_, rm_fr_em (rm_fr_refl _), wok_m (cy_136 (d := 0 :: c') h.2.1 h.2.2.1 (by omega) (by omega) (Or.inr (Or.inl ⟨by omega, rfl⟩))) fun r K hK => ?_⟩
    · unfold dk_223
      rw [e1, if_neg (fun z => absurd ((wd_slt (by decide) (by omega)).mp z) (by omega)), Nat.mod_eq_of_lt (show 6 + y < 4294967296 by omega), dkS_30 (by omega), od_bS]
    · obtain ⟨k1, k2, k3, k4⟩ := hK
      rcases k4 with ⟨z, _⟩ | ⟨_, k5, k6⟩ | ⟨z, _⟩
      · omega
      · refine ⟨w + 1, s + 1, eg_t h (⟨ry_em h.1, k5, bz_em k2, ?_, ⟨st_sf_refl _, st_pre_refl _, ⟨fun l _ => ⟨k3 62 l (by omega), k3 65 l (by omega)⟩, fun l _ e6 h6 => k3 e6 l (by omega)⟩⟩, Nat.le_refl _, hnp⟩) h62, by omega, by omega, by omega, by omega, k1⟩
        refine pj_1 ⟨by omega, by omega, by omega, by omega⟩ (fun d j q => pm_em_ne (by omega) (by omega)) (fun d j q => k3 d j (by omega)) (fun H J nm ha hb2 hnm => Or.inl ?_)
        refine hf H J nm ?_ ?_ ?_ ?_ ?_ hnm
        · rw [ha.1 20 w (by decide) (by decide) (by omega) (by omega)]; exact (hat _ _ _).1
        · rw [ha.1 21 w (by decide) (by decide) (by omega) (by omega)]; exact (hat _ _ _).2.1
        · rw [hb2.1 12 s (by decide) (by decide) (by omega) (by omega), k6.1, e2]
        · rw [hb2.1 13 s (by decide) (by decide) (by omega) (by omega), k6.2.1]
        · have z := ha.2.2.2
          rw [pm_em_ne (by omega) (by omega)] at z
          exact z
      · omega
  have none_ : 3 < F 0 61 → F 0 61 < 10 → 2147483648 ≤ G 56 7 → c' = 0 :: c → ∃ F1, dk_223 F = some (0, F1) ∧ rm_fr F F1 ∧ wok (dk_136 G) (fun _ K => ∃ w1 s1, eg T n M G0 c0 O N off voff ph cx cb A B i0 ls0 cs0 w0 s0 nw0 ns0 np0 c t W L P Q F1 K i ls cs w1 s1 nw ns np (0 :: c) ∧ w ≤ w1 ∧ w1 ≤ w + 1 ∧ s ≤ s1 ∧ s1 ≤ s + 1 ∧ K 56 7 = 4294967295) := fun e1 e2 e3 e4 => by
    subst e4
    refine ⟨F, ?_, rm_fr_refl _, wok_m (cy_136 (d := 0 :: c) h.2.1 h.2.2.1 (by omega) (by rw [hg_0]; omega) (Or.inr (Or.inr ⟨e3, rfl⟩))) fun r K hK => ?_⟩
    · unfold dk_223
      rw [if_pos ((wd_slt (by decide) (by omega)).mpr (by omega)), if_neg (by omega)]
    · obtain ⟨k1, k2, k3, k4⟩ := hK
      rcases k4 with ⟨z, _⟩ | ⟨z, _⟩ | ⟨_, k5⟩
      · omega
      · omega
      · exact ⟨w, s, eg_t h (eg_n h.1 k5 k2 (fun d j q => rfl) k3 (st_pre_refl _) (Nat.le_refl _) hnp) h62, by omega, by omega, by omega, by omega, k1⟩
  rcases ht with ⟨t1, t2, t3, t4⟩ | ⟨t1, t2, t3, t4, t5⟩ | ⟨t1, t2, t3, t4, t5, t6⟩ | ⟨t1, t2, t3, t4, t5⟩ | ⟨t1, t2, t3, _⟩ | ⟨t1, t2, t3⟩
  · exact name 0 5 (by decide) t1 t2.symm (by decide) t3 (fun H J nm e1 e2 e3 e4 e5 hnm => ⟨5, e1, e3, by rw [e4, e2]; exact t4, rfl⟩)
  · exact name 1 7 (by decide) t1 t2.symm (by decide) t3 (fun H J nm e1 e2 e3 e4 e5 hnm => ⟨6, e1, e3, by rw [e4, e2]; exact t4, by rw [e2]; rw [hf15] at t5; omega, rfl⟩)
  · exact name 2 9 (by decide) t1 t2.symm (by decide) t3 (fun H J nm e1 e2 e3 e4 e5 hnm => ⟨7, e1, e3, by rw [e4, e2]; exact hnm _ _ t4 t5 t6, rfl⟩)
  · subst t3
    refine ⟨pm_em F 12 0 0 (F 0 63), ?_, rm_fr_em (rm_fr_refl _), wok_m (cy_136 (d := 0 :: c) h.2.1 h.2.2.1 (by omega) (by rw [hg_0, hg_0]; omega) (Or.inl ⟨t2, c, rfl, rfl⟩)) fun r K hK => ?_⟩
    · unfold dk_223
      rw [t1, if_pos ((wd_slt (by decide) (by decide)).mpr (by decide)), if_pos rfl, dkS_30 (by omega), od_bS]
    · obtain ⟨k1, k2, k3, k4⟩ := hK
      rcases k4 with ⟨_, k5, k6⟩ | ⟨z, _⟩ | ⟨z, _⟩
      · refine ⟨w + 1, s + 1, eg_t h (⟨ry_em h.1, k5, bz_em k2, ?_, ⟨st_sf_refl _, st_pre_refl _, ⟨fun l _ => ⟨k3 62 l (by omega), k3 65 l (by omega)⟩, fun l _ e6 h6 => k3 e6 l (by omega)⟩⟩, Nat.le_refl _, hnp⟩) h62, by omega, by omega, by omega, by omega, k1⟩
        refine pj_1 ⟨by omega, by omega, by omega, by omega⟩ (fun d j q => pm_em_ne (by omega) (by omega)) (fun d j q => k3 d j (by omega)) (fun H J nm ha hb2 hnm => Or.inl ⟨11, ?_, ?_, ?_, c, rfl, rfl⟩)
        · rw [ha.1 20 w (by decide) (by decide) (by omega) (by omega)]; exact (hat _ _ _).1
        · rw [hb2.1 12 s (by decide) (by decide) (by omega) (by omega)]; exact k6.1
        · rw [ha.1 23 w (by decide) (by decide) (by omega) (by omega), hb2.1 15 s (by decide) (by decide) (by omega) (by omega), k6.2.2.2, (hat _ _ _).2.2.2.1, t5]
      · omega
      · omega
  · exact none_ (by omega) (by omega) (by omega) t3
  · exact none_ (by omega) (by omega) (by omega) t3
end
