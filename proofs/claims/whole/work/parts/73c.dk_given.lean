/-! ===== 73c: methods whose contracts stand already (58 to 64), as functions on memories (by wip/whole2/law73c.py) ===== -/
theorem wkI_of {T : wq_F → Prop} {d m v : Nat} {as : List Nat} {sh : List (Nat × Nat)} {F G : wq_F} {x : Nat × wq_F} (h : some (v, G) = some x) (hm : mq d m as sh F (wq_k (some v) sh G)) (hv : v < 4294967296) (hT : T G) : mq d m as sh F (wkI T sh x) := by
  cases h
  exact mq_mono hm (fun r sh' F2 mc ms q => by
    obtain ⟨rfl, rfl, rfl, rfl, rfl⟩ := q
    exact ⟨rfl, rfl, rfl, rfl, rfl, hv, hT⟩)
theorem wkZ_of {T : wq_F → Prop} {d m v : Nat} {as : List Nat} {sh : List (Nat × Nat)} {F G : wq_F} {x : Nat × wq_F} (h : some (v, G) = some x) (hm : mq d m as sh F (wq_k (some v) sh G)) (hv : v < 2) (hT : T G) : mq d m as sh F (wkZ T sh x) := by
  cases h
  exact mq_mono hm (fun r sh' F2 mc ms q => by
    obtain ⟨rfl, rfl, rfl, rfl, rfl⟩ := q
    exact ⟨rfl, rfl, rfl, rfl, rfl, hv, hT⟩)
theorem wkN_of {T : wq_F → Prop} {d m : Nat} {as : List Nat} {sh : List (Nat × Nat)} {F G : wq_F} {x : Nat × wq_F} (h : some (0, G) = some x) (hm : mq d m as sh F (wq_k none sh G)) (hT : T G) : mq d m as sh F (wkN T sh x) := by
  cases h
  exact mq_mono hm (fun r sh' F2 mc ms q => by
    obtain ⟨rfl, rfl, rfl, rfl, rfl⟩ := q
    exact ⟨rfl, rfl, rfl, rfl, rfl, hT⟩)
theorem lx_skip_le {T : Nat → Nat} {n : Nat} : ∀ f k : Nat, k ≤ n → lx_skip T n f k ≤ n
  | 0, k, h => h
  | f + 1, k, h => by
    by_cases h1 : lx_at T n k = 45 ∧ lx_at T n (k + 1) = 45
    · rw [lx_skip_l h1.1 h1.2]
      exact lx_skip_le f _ (lx_line_le h)
    · by_cases h2 : lx_at T n k = 32 ∨ lx_at T n k = 9 ∨ lx_at T n k = 13 ∨ lx_at T n k = 10
      · have h3 : k < n := lx_at_in (T := T) (by omega)
        rw [lx_skip_b h1 h2]
        exact lx_skip_le f _ (by omega)
      · rw [lx_skip_e h1 h2]
        exact h
theorem lx_letter2 (c : Nat) : lx_letter c < 2 := by
  unfold lx_letter
  split <;> decide
theorem dx_p0_lt (c e : Nat) : lx_p0 c e < 4294967296 := by
  unfold lx_p0 lx_p1 lx_p2 lx_p3 lx_p4 lx_p5 lx_p6 lx_p7
  repeat' split
  all_goals decide
theorem lx_q_lt (c e : Nat) : lx_q c e < 4294967296 := by
  unfold lx_q
  repeat' split
  all_goals decide
theorem wx_at_lt {F : wq_F} (hT : wm_T F) (j : Nat) (hn : F 0 2 ≤ 6000) : lx_at (F 1) (F 0 2) j < 4294967296 := by
  unfold lx_at
  by_cases h : j < F 0 2
  · rw [if_pos h]
    exact hT.ai (k := 1) rfl (show j < 6000 by omega)
  · rw [if_neg h]
    decide
def dk_28 (F : wq_F) (a0 : Nat) : Option (Nat × wq_F) := od_g (a0 < 2147483648 ∧ F 0 2 ≤ 6000) (some (lx_at (F 1) (F 0 2) a0, F))
theorem dkT_28 {d : Nat} {F : wq_F} (hT : wm_T F) {a0 : Nat} (ha0 : a0 < 4294967296) {x : Nat × wq_F} (h : dk_28 F a0 = some x) : mq (d + 1) 28 [36893488147419103232, a0] wm_sh F (wkI wm_T wm_sh x) := by
  unfold dk_28 at h
  obtain ⟨g, h⟩ := od_gE h
  exact wkI_of h (wm_at hT g.1 g.2) (wx_at_lt hT _ g.2) hT
def dk_27 (F : wq_F) (a0 : Nat) : Option (Nat × wq_F) := od_g (F 0 2 ≤ 6000 ∧ (∀ i, i < F 0 2 → F 1 i < 256) ∧ a0 ≤ F 0 2) (some (lx_skip (F 1) (F 0 2) (F 0 2 + 1) a0, F))
theorem dkT_27 {d : Nat} {F : wq_F} (hT : wm_T F) {a0 : Nat} (ha0 : a0 < 4294967296) {x : Nat × wq_F} (h : dk_27 F a0 = some x) : mq (d + 2) 27 [36893488147419103232, a0] wm_sh F (wkI wm_T wm_sh x) := by
  unfold dk_27 at h
  obtain ⟨g, h⟩ := od_gE h
  exact wkI_of h (wm_skip hT g.1 g.2.1 g.2.2) (Nat.lt_of_le_of_lt (lx_skip_le _ _ g.2.2) (by omega)) hT
def dk_196 (F : wq_F) (a0 : Nat) : Option (Nat × wq_F) := od_g (F 0 2 ≤ 6000 ∧ a0 < 2147483648) (some (lx_lines (F 1) (F 0 2) a0 (F 0 2) 1 0, F))
theorem dkT_196 {d : Nat} {F : wq_F} (hT : wm_T F) {a0 : Nat} (ha0 : a0 < 4294967296) {x : Nat × wq_F} (h : dk_196 F a0 = some x) : mq (d + 1) 196 [36893488147419103232, a0] wm_sh F (wkI wm_T wm_sh x) := by
  unfold dk_196 at h
  obtain ⟨g, h⟩ := od_gE h
  exact wkI_of h (wm_lineOf hT g.1 g.2) (lx_lines_lt _ _ _ _ _ _ (by omega)) hT
def dk_197 (F : wq_F) (a0 : Nat) : Option (Nat × wq_F) := some (lx_letter a0, F)
theorem dkT_197 {d : Nat} {F : wq_F} (hT : wm_T F) {a0 : Nat} (ha0 : a0 < 4294967296) {x : Nat × wq_F} (h : dk_197 F a0 = some x) : mq (d + 1) 197 [a0] wm_sh F (wkZ wm_T wm_sh x) := by
  unfold dk_197 at h
  exact wkZ_of h (wm_isLetter ha0) (lx_letter2 _) hT
def dk_198 (F : wq_F) (a0 : Nat) : Option (Nat × wq_F) := some (lx_digit a0, F)
theorem dkT_198 {d : Nat} {F : wq_F} (hT : wm_T F) {a0 : Nat} (ha0 : a0 < 4294967296) {x : Nat × wq_F} (h : dk_198 F a0 = some x) : mq (d + 1) 198 [a0] wm_sh F (wkZ wm_T wm_sh x) := by
  unfold dk_198 at h
  exact wkZ_of h (wm_isDigit ha0) (lx_digit2 _) hT
def dk_199 (F : wq_F) (a0 : Nat) : Option (Nat × wq_F) := some (lx_hex a0, F)
theorem dkT_199 {d : Nat} {F : wq_F} (hT : wm_T F) {a0 : Nat} (ha0 : a0 < 4294967296) {x : Nat × wq_F} (h : dk_199 F a0 = some x) : mq (d + 2) 199 [a0] wm_sh F (wkI wm_T wm_sh x) := by
  unfold dk_199 at h
  exact wkI_of h (wm_hex ha0) (lx_hex_lt ha0) hT
def dk_206 (F : wq_F) (a0 : Nat) (a1 : Nat) : Option (Nat × wq_F) := some (lx_p0 a0 a1, F)
theorem dkT_206 {d : Nat} {F : wq_F} (hT : wm_T F) {a0 : Nat} (ha0 : a0 < 4294967296) {a1 : Nat} (ha1 : a1 < 4294967296) {x : Nat × wq_F} (h : dk_206 F a0 a1 = some x) : mq (d + 1) 206 [a0, a1] wm_sh F (wkI wm_T wm_sh x) := by
  unfold dk_206 at h
  exact wkI_of h (wm_pair ha0 ha1) (dx_p0_lt _ _) hT
def dk_203 (F : wq_F) (a0 : Nat) : Option (Nat × wq_F) := od_g (F 0 2 ≤ 6000 ∧ (∀ i, i < F 0 2 → F 1 i < 256) ∧ a0 ≤ F 0 2 ∧ (lx_num (F 1) (F 0 2) a0).1 < 4294967296 ∧ ev_isL (lx_num (F 1) (F 0 2) a0).2.1 = true ∧ (lx_num (F 1) (F 0 2) a0).2.2 < 4294967296) (some (0, wq_up (wq_up (wq_up F 0 67 (lx_num (F 1) (F 0 2) a0).1) 0 68 (lx_num (F 1) (F 0 2) a0).2.1) 0 69 (lx_num (F 1) (F 0 2) a0).2.2))
theorem dkT_203 {d : Nat} {F : wq_F} (hT : wm_T F) {a0 : Nat} (ha0 : a0 < 4294967296) {x : Nat × wq_F} (h : dk_203 F a0 = some x) : mq (d + 3) 203 [36893488147419103232, a0] wm_sh F (wkN wm_T wm_sh x) := by
  unfold dk_203 at h
  obtain ⟨g, h⟩ := od_gE h
  exact wkN_of h (wm_readWhole hT g.1 g.2.1 g.2.2.1) (((hT.uf (f := 67) (c := 0) rfl g.2.2.2.1).uf (f := 68) (c := 10) rfl g.2.2.2.2.1).uf (f := 69) (c := 0) rfl g.2.2.2.2.2)
def dk_188 (F : wq_F) (a0 : Nat) : Option (Nat × wq_F) := some (lx_letter a0, F)
theorem dkT_188 {d : Nat} {F : wq_F} (hT : xm_T F) {a0 : Nat} (ha0 : a0 < 4294967296) {x : Nat × wq_F} (h : dk_188 F a0 = some x) : mq (d + 1) 188 [a0] xm_sh F (wkZ xm_T xm_sh x) := by
  unfold dk_188 at h
  exact wkZ_of h (xm_isLetter ha0) (lx_letter2 _) hT
def dk_187 (F : wq_F) (a0 : Nat) : Option (Nat × wq_F) := some (lx_digit a0, F)
theorem dkT_187 {d : Nat} {F : wq_F} (hT : xm_T F) {a0 : Nat} (ha0 : a0 < 4294967296) {x : Nat × wq_F} (h : dk_187 F a0 = some x) : mq (d + 1) 187 [a0] xm_sh F (wkZ xm_T xm_sh x) := by
  unfold dk_187 at h
  exact wkZ_of h (xm_isDigit ha0) (lx_digit2 _) hT
def dk_189 (F : wq_F) (a0 : Nat) : Option (Nat × wq_F) := some (lx_hex a0, F)
theorem dkT_189 {d : Nat} {F : wq_F} (hT : xm_T F) {a0 : Nat} (ha0 : a0 < 4294967296) {x : Nat × wq_F} (h : dk_189 F a0 = some x) : mq (d + 2) 189 [a0] xm_sh F (wkI xm_T xm_sh x) := by
  unfold dk_189 at h
  exact wkI_of h (xm_hexDigit ha0) (lx_hex_lt ha0) hT
def dk_195 (F : wq_F) (a0 : Nat) (a1 : Nat) : Option (Nat × wq_F) := some (lx_q a0 a1, F)
theorem dkT_195 {d : Nat} {F : wq_F} (hT : xm_T F) {a0 : Nat} (ha0 : a0 < 4294967296) {a1 : Nat} (ha1 : a1 < 4294967296) {x : Nat × wq_F} (h : dk_195 F a0 a1 = some x) : mq (d + 1) 195 [a0, a1] xm_sh F (wkI xm_T xm_sh x) := by
  unfold dk_195 at h
  exact wkI_of h (xm_pairOf ha0 ha1) (lx_q_lt _ _) hT
def dk_186 (F : wq_F) (a0 : Nat) : Option (Nat × wq_F) := od_g (a0 < 2147483648 ∧ F 57 2 ≤ 6000) (some (lx_at (F 1) (F 57 2) a0, F))
theorem dkT_186 {d : Nat} {F : wq_F} (hT : xm_T F) {a0 : Nat} (ha0 : a0 < 4294967296) {x : Nat × wq_F} (h : dk_186 F a0 = some x) : mq (d + 1) 186 [36893488147419103289, a0] xm_sh F (wkI xm_T xm_sh x) := by
  unfold dk_186 at h
  obtain ⟨g, h⟩ := od_gE h
  exact wkI_of h (xm_byteAt hT g.1 g.2) (xx_at_lt hT _ g.2) hT
def dk_74 (F : wq_F) (a0 : Nat) : Option (Nat × wq_F) := od_g (F 57 2 ≤ 6000 ∧ a0 ≤ F 57 2) (some (lx_skip (F 1) (F 57 2) (F 57 2 + 1) a0, F))
theorem dkT_74 {d : Nat} {F : wq_F} (hT : xm_T F) {a0 : Nat} (ha0 : a0 < 4294967296) {x : Nat × wq_F} (h : dk_74 F a0 = some x) : mq (d + 2) 74 [36893488147419103289, a0] xm_sh F (wkI xm_T xm_sh x) := by
  unfold dk_74 at h
  obtain ⟨g, h⟩ := od_gE h
  exact wkI_of h (xm_behindBlanks hT g.1 g.2) (Nat.lt_of_le_of_lt (lx_skip_le _ _ g.2) (by omega)) hT
def dk_191 (F : wq_F) : Option (Nat × wq_F) := od_g (F 57 2 ≤ 6000 ∧ F 57 5 < F 57 2 ∧ (xx_num (F 1) (F 57 2) (F 57 5)).1 < 4294967296 ∧ ev_isL (xx_num (F 1) (F 57 2) (F 57 5)).2.1 = true ∧ (xx_num (F 1) (F 57 2) (F 57 5)).2.2 < 4294967296) (some (0, wq_up (wq_up (wq_up F 57 8 (xx_num (F 1) (F 57 2) (F 57 5)).2.1) 57 3 (xx_num (F 1) (F 57 2) (F 57 5)).2.2) 57 4 (xx_num (F 1) (F 57 2) (F 57 5)).1))
theorem dkT_191 {d : Nat} {F : wq_F} (hT : xm_T F) {x : Nat × wq_F} (h : dk_191 F = some x) : mq (d + 3) 191 [36893488147419103289] xm_sh F (wkN xm_T xm_sh x) := by
  unfold dk_191 at h
  obtain ⟨g, h⟩ := od_gE h
  exact wkN_of h (xm_scanNumber hT rfl rfl rfl g.1 g.2.1 (fun i hi => hT.ab (k := 1) rfl (show i < 6000 by omega))) (((hT.uf (k := 57) (f := 8) (c := 10) rfl (by decide) rfl g.2.2.2.1).uf (k := 57) (f := 3) (c := 0) rfl (by decide) rfl g.2.2.2.2).uf (k := 57) (f := 4) (c := 0) rfl (by decide) rfl g.2.2.1)
