/-! ===== 73b: Math.min, Math.max, arraycopy; a byte looked for in the row of signs (by wip/whole2/law73b.py) ===== -/
theorem wd_ite {c : Prop} [Decidable c] {x y b : Nat} (hx : x < b) (hy : y < b) : (if c then x else y) < b := by
  by_cases h : c
  · rw [if_pos h]; exact hx
  · rw [if_neg h]; exact hy
/-- n places of one row copied to another -/
def od_cpF (F : wq_F) (s sp t dp n : Nat) : wq_F := fun k i => if k = t ∧ dp ≤ i ∧ i < dp + n then F s (sp + (i - dp)) else F k i
def od_cp {α : Type} (F : wq_F) (s sp t dp n : Nat) (k : wq_F → Option α) : Option α := k (od_cpF F s sp t dp n)
theorem od_cpE {α : Type} {F : wq_F} {s sp t dp n : Nat} {k : wq_F → Option α} {x : α} (h : od_cp F s sp t dp n k = some x) : ∃ G, G = od_cpF F s sp t dp n ∧ k G = some x := ⟨_, rfl, h⟩
theorem od_cpN_at {A B dp sp : Nat} (hB : ∀ i, ev_at B i < 4722366482869645213696) : ∀ n i : Nat, ev_at (ev_cpN A B dp sp n) i = if dp ≤ i ∧ i < dp + n then ev_at B (sp + (i - dp)) else ev_at A i
  | 0, i => by
    show ev_at A i = _
    rw [if_neg (by omega)]
  | n + 1, i => by
    show ev_at (ev_up (ev_cpN A B dp sp n) (dp + n) (ev_at B (sp + n))) i = _
    rw [ev_at_up (hB _), od_cpN_at hB n i]
    by_cases h1 : i = dp + n
    · rw [if_pos h1, if_pos (by omega), show sp + (i - dp) = sp + n by omega]
    · rw [if_neg h1]
      by_cases h2 : dp ≤ i ∧ i < dp + n
      · rw [if_pos h2, if_pos (by omega)]
      · rw [if_neg h2, if_neg (by omega)]
theorem ev_all8_of {B sp : Nat} : ∀ {n : Nat}, (∀ i, i < n → ev_b8 (ev_at B (sp + i)) = ev_at B (sp + i)) → ev_all8 B sp n = true
  | 0, _ => rfl
  | n + 1, h => by
    show (ev_all8 B sp n && Nat.beq (ev_b8 (ev_at B (sp + n))) (ev_at B (sp + n))) = true
    rw [ev_all8_of (fun i hi => h i (by omega)), h n (by omega), Nat.beq_refl]
    rfl
theorem wd_bF {x y : Nat} (h : ¬ x < y) : Nat.blt x y = false := by
  cases hq : Nat.blt x y
  · rfl
  · exact absurd (Nat.blt_eq.mp hq) h
section WB
variable {T : wq_F → Prop} {d : Nat} {cf : Nat → List Nat → ev_H → Option ev_A} {code : List (List ev_I)} {rt : Option FieldType} {pc a b t w ln nc ns : Nat} {L st : List Nat} {sh : List (Nat × Nat)} {F : wq_F} {K : Option Nat → List (Nat × Nat) → wq_F → Nat → Nat → Prop}
theorem wq_mmG {mx : Bool} {ix x y z : Nat} (hf : ev_ft code pc = some (pc, .invokestatic ix, ln, a, b, t, w)) (h1 : (Nat.ble 997 a && Nat.ble a 999) = true) (h2 : Nat.beq a 999 = false) (h3 : Nat.beq a 997 = mx) (hx : x < 4294967296) (hy : y < 4294967296) (hl : 2 * st.length ≤ 8) (hz : (bif mx then (bif Nat.blt (ev_s x) (ev_s y) then y else x) else (bif Nat.blt (ev_s y) (ev_s x) then y else x)) = z) (k : wq cf code rt (pc + 3) L (z :: st) sh F nc ns K) : wq cf code rt pc L (y :: x :: st) sh F nc ns K := by
  refine wq_one hf rfl (fun B hB => ⟨B, hB, ?_⟩) (Nat.le_refl _) (Nat.le_refl _) k
  show (bif (Nat.ble 997 a && Nat.ble a 999) then (bif (Nat.ble 997 a && Nat.ble a 999) then (bif Nat.beq a 999 then ev_cpy 0 al_dfl pc L (y :: x :: st) (wq_mk sh 0 B) nc ns else ev_mm (Nat.beq a 997) pc L (y :: x :: st) (wq_mk sh 0 B) nc ns) else none) else _) = _
  rw [h1, cond_true, cond_true, h2, cond_false, h3]
  show (bif ev_isI y && (ev_isI x && Nat.ble (ev_cat st) 8) then _ else none) = _
  rw [wq_I hx, wq_I hy, Nat.ble_eq_true_of_le (Nat.le_trans (ev_cat_le st) hl), Bool.and_self, Bool.and_self, cond_true, hz]
theorem wq_min {ix x y : Nat} (hf : ev_ft code pc = some (pc, .invokestatic ix, ln, 998, b, t, w)) (hx : x < 4294967296) (hy : y < 4294967296) (hl : 2 * st.length ≤ 8) (k : wq cf code rt (pc + 3) L ((if ev_s y < ev_s x then y else x) :: st) sh F nc ns K) : wq cf code rt pc L (y :: x :: st) sh F nc ns K := by
  refine wq_mmG hf (by decide) (by decide) (mx := false) (by decide) hx hy hl ?_ k
  rw [cond_false]
  by_cases h : ev_s y < ev_s x
  · rw [if_pos h, Nat.blt_eq.mpr h, cond_true]
  · rw [if_neg h, wd_bF h, cond_false]
theorem wq_max {ix x y : Nat} (hf : ev_ft code pc = some (pc, .invokestatic ix, ln, 997, b, t, w)) (hx : x < 4294967296) (hy : y < 4294967296) (hl : 2 * st.length ≤ 8) (k : wq cf code rt (pc + 3) L ((if ev_s x < ev_s y then y else x) :: st) sh F nc ns K) : wq cf code rt pc L (y :: x :: st) sh F nc ns K := by
  refine wq_mmG hf (by decide) (by decide) (mx := true) (by decide) hx hy hl ?_ k
  rw [cond_true]
  by_cases h : ev_s x < ev_s y
  · rw [if_pos h, Nat.blt_eq.mpr h, cond_true]
  · rw [if_neg h, wd_bF h, cond_false]
theorem wd_atB {B : Nat → Nat} (k i : Nat) : ev_at (B k) i < 4722366482869645213696 := ev_at_lt _ _
theorem wd_cpy {ix q q2 n1 n2 n sp dp : Nat} {G : wq_F} (hf : ev_ft code pc = some (pc, .invokestatic ix, ln, 999, b, t, w)) (hs1 : sh[q]? = some (1001, n1)) (hs2 : sh[q2]? = some (1001, n2)) (hq1 : q < 1000) (hq2 : q2 < 1000) (g1 : sp + n ≤ n1) (g2 : dp + n ≤ n2) (hn1 : n1 < 2147483648) (hn2 : n2 < 2147483648) (hl : 2 * st.length ≤ 8) (h8 : ∀ i, i < n → ev_b8 (F q (sp + i)) = F q (sp + i)) (e : G = od_cpF F q sp q2 dp n) (k : wq cf code rt (pc + 3) L st sh G nc ns K) : wq cf code rt pc L (n :: dp :: (36893488147419103232 + q2) :: sp :: (36893488147419103232 + q) :: st) sh F nc ns K := by
  subst e
  refine wq_one hf rfl (fun B hB => ⟨wq_ch B q2 (ev_cpN (B q2) (B q) dp sp n), ?_, ?_⟩) (Nat.le_refl _) (Nat.le_refl _) k
  · intro k' i'
    unfold wq_ch od_cpF
    by_cases hk : k' = q2
    · subst hk
      rw [if_pos rfl, od_cpN_at (fun i => wd_atB q i), hB, hB]
      by_cases h : dp ≤ i' ∧ i' < dp + n
      · rw [if_pos h, if_pos ⟨rfl, h⟩]
      · rw [if_neg h, if_neg (fun z => h z.2)]
    · rw [if_neg hk, if_neg (fun z => hk z.1), hB]
  · have hA : ev_isA (36893488147419103232 + q) = false := by
      unfold ev_isA
      cases hz : Nat.ble 110680464442257309696 (36893488147419103232 + q)
      · rfl
      · have := Nat.le_of_ble_eq_true hz
        omega
    have hc : ev_cpy 0 al_dfl pc L (n :: dp :: (36893488147419103232 + q2) :: sp :: (36893488147419103232 + q) :: st) (wq_mk sh 0 B) nc ns = some ((pc + 3, L, st), wq_mk sh 0 (wq_ch B q2 (ev_cpN (B q2) (B q) dp sp n)), nc, ns) := by
      unfold ev_cpy
      simp only [wq_o hs2 (show q2 < 18446744073709551616 by omega), wq_o hs1 (show q < 18446744073709551616 by omega), hA, Nat.beq_refl, Nat.zero_le, Nat.ble_eq_true_of_le, g1, g2, Nat.blt_eq.mpr hn1, Nat.blt_eq.mpr hn2, Nat.le_trans (ev_cat_le st) hl, ev_all8_of (B := B q) (sp := sp) (n := n) (fun i hi => by rw [hB]; exact h8 i hi), Bool.and_self, cond_true, cond_false, Nat.add_sub_cancel_left, wq_mk_set hs2]
    exact hc
theorem wq_ldcK {ix : Nat} (hf : ev_ft code pc = some (pc, .ldc ix, ln, a, b, t, w)) (ha : ev_isK a = true) (hn : ev_isI a = false) (hd : Nat.blt (a - 92233720368547758080) (al_dfl 5000) = true) (k : wq cf code rt (pc + 2) L (a :: st) sh F nc ns K) : wq cf code rt pc L st sh F nc ns K :=
  wq_stK hf rfl rfl (fun h => by simp only [ev_step, ev_stH, hn, cond_false]) (fun h => by simp only [ev_stK, ha, hd, Bool.and_self, cond_true]) k
/-- a call on a string that is a constant -/
theorem wq_virtK {ix n r : Nat} {as rest tl : List Nat} (hf : ev_ft code pc = some (pc, .invokevirtual ix, ln, a, n, 1, w)) (ho : st.drop (n - 1) = r :: tl) (hK : ev_isK r = true) (hR : ev_isR r = false) (hn0 : 0 < n) (hn : n ≤ st.length) (hd : st.drop n = rest) (hl : 2 * rest.length ≤ 8) (has : (st.take n).reverse = as)
    (k : mq d a as sh F (fun r sh' F' mc ms => wq (wq_cf d) code rt (pc + 3) L (r.toList ++ rest) sh' F' (nc + mc) (ns + ms) K)) : wq (wq_cf d) code rt pc L st sh F nc ns K :=
  wq_inv hf rfl (fun B => Or.inl (by
    have h1 : ev_step 0 al_dfl (wq_cf d) (.invokevirtual ix) a n 1 pc L st (wq_mk sh 0 B) nc ns = none := by
      simp only [ev_step, ho, ev_o, hR, cond_false]
    show ev_stepX 0 al_dfl (wq_cf d) (.invokevirtual ix) a n 1 pc L st (wq_mk sh 0 B) nc ns = _
    unfold ev_stepX
    rw [show ev_pre (.invokevirtual ix) a 1 = false from rfl, cond_false, h1]
    simp only [ev_stK, ho, hK, Nat.beq_refl, Nat.blt_eq.mpr hn0, Bool.and_self, cond_true])) hn hd (Nat.le_trans (ev_cat_le _) hl) has k
theorem wq_virtKI {ix n r x : Nat} {as rest tl : List Nat} (hf : ev_ft code pc = some (pc, .invokevirtual ix, ln, a, n, 1, w)) (ho : st.drop (n - 1) = r :: tl) (hK : ev_isK r = true) (hR : ev_isR r = false) (hn0 : 0 < n) (hn : n ≤ st.length) (hd : st.drop n = rest) (hl : 2 * rest.length ≤ 8) (has : (st.take n).reverse = as) (hm : mq d a as sh F (wq_k (some x) sh F))
    (k : wq (wq_cf d) code rt (pc + 3) L (x :: rest) sh F nc ns K) : wq (wq_cf d) code rt pc L st sh F nc ns K :=
  wq_virtK hf ho hK hR hn0 hn hd hl has (mq_mono hm (fun r sh' F2 mc ms h => by
    obtain ⟨rfl, rfl, rfl, rfl, rfl⟩ := h
    exact k))
theorem wq_statKI {ix n x : Nat} {as rest : List Nat} (hf : ev_ft code pc = some (pc, .invokestatic ix, ln, a, n, t, w)) (ha : a < 997) (hn : n ≤ st.length) (hd : st.drop n = rest) (hl : 2 * rest.length ≤ 8) (has : (st.take n).reverse = as) (hm : mq d a as sh F (wq_k (some x) sh F))
    (k : wq (wq_cf d) code rt (pc + 3) L (x :: rest) sh F nc ns K) : wq (wq_cf d) code rt pc L st sh F nc ns K :=
  wq_stat hf ha hn hd (Nat.le_trans (ev_cat_le _) hl) has (mq_mono hm (fun r sh' F2 mc ms h => by
    obtain ⟨rfl, rfl, rfl, rfl, rfl⟩ := h
    exact k))
end WB
theorem xm_T.cp {F : wq_F} (h : xm_T F) {k k2 n n2 sp dp m : Nat} (hq : xm_sh[k]? = some (1001, n)) (hq2 : xm_sh[k2]? = some (1001, n2)) (g : sp + m ≤ n) : xm_T (od_cpF F k sp k2 dp m) := by
  intro k' i' c hc
  unfold od_cpF
  by_cases hz : k' = k2 ∧ dp ≤ i' ∧ i' < dp + m
  · rw [if_pos hz]
    obtain ⟨rfl, h1, h2⟩ := hz
    have h3 : xm_ty k (sp + (i' - dp)) = some 1 := xm_tyA hq (by decide) (by omega)
    have h4 : c = 1 := by
      unfold xm_ty at hc
      rw [hq2] at hc
      dsimp only at hc
      rw [if_neg (by decide)] at hc
      split at hc
      · cases hc; rfl
      · cases hc
    subst h4
    exact h k _ 1 h3
  · rw [if_neg hz]
    exact h k' i' c hc
def lx_ix (c : Nat) : Nat := if c = 43 then 0 else if c = 45 then 1 else if c = 42 then 2 else if c = 37 then 3 else if c = 38 then 4 else if c = 124 then 5 else if c = 126 then 6 else if c = 60 then 7 else if c = 62 then 8 else if c = 61 then 9 else if c = 35 then 10 else if c = 40 then 11 else if c = 41 then 12 else if c = 123 then 13 else if c = 125 then 14 else if c = 91 then 15 else if c = 93 then 16 else if c = 59 then 17 else if c = 58 then 18 else if c = 44 then 19 else if c = 46 then 20 else 4294967295
theorem lx_ix_lt (c : Nat) : lx_ix c < 4294967296 := wd_ite (by decide) (wd_ite (by decide) (wd_ite (by decide) (wd_ite (by decide) (wd_ite (by decide) (wd_ite (by decide) (wd_ite (by decide) (wd_ite (by decide) (wd_ite (by decide) (wd_ite (by decide) (wd_ite (by decide) (wd_ite (by decide) (wd_ite (by decide) (wd_ite (by decide) (wd_ite (by decide) (wd_ite (by decide) (wd_ite (by decide) (wd_ite (by decide) (wd_ite (by decide) (wd_ite (by decide) (wd_ite (by decide) ((by decide))))))))))))))))))))))
theorem lj_2 {d : Nat} {sh : List (Nat × Nat)} {F : wq_F} : mq (d + 1) 2 [92233720368547758093] sh F (wq_k (some 1) sh F) := by
  have e : ev_ent [92233720368547758093] = [92233720368547758093] := by
    rfl
  refine mq_of (maxL := 1) (rt := (some .boolean)) (code := (ev_un al_mJ0_isLatin1_aae02.2.2.2.2)) (L := [92233720368547758093]) rfl (by rw [e]; exact Nat.le_of_ble_eq_true rfl) (by rw [e]; rfl) ?_
  refine wq_stK (pc' := 3) (L' := [92233720368547758093]) (st' := [1]) rfl rfl rfl (fun _ => rfl) (fun _ => rfl) ?_
  refine wq_if_eq rfl rfl (by decide) (fun h => absurd h (by decide)) (fun _ => ?_)
  refine wq_stK (pc' := 7) (L' := [92233720368547758093]) (st' := [92233720368547758093]) rfl rfl rfl (fun _ => rfl) (fun _ => rfl) ?_
  refine wq_stK (pc' := 10) (L' := [92233720368547758093]) (st' := [0]) rfl rfl rfl (fun _ => rfl) (fun _ => rfl) ?_
  refine wq_if_ne rfl rfl (by decide) (fun h => absurd h (by decide)) (fun _ => ?_)
  refine wq_iconst rfl rfl ?_
  refine wq_goto rfl rfl ?_
  exact wq_iret rfl (by decide) rfl wq_k0
theorem lj_7 {d : Nat} {sh : List (Nat × Nat)} {F : wq_F} : mq (d + 1) 7 [92233720368547758093] sh F (wq_k (some 0) sh F) := by
  have e : ev_ent [92233720368547758093] = [92233720368547758093] := by
    rfl
  refine mq_of (maxL := 1) (rt := (some .byte)) (code := (ev_un al_mJ0_coder_7d493.2.2.2.2)) (L := [92233720368547758093]) rfl (by rw [e]; exact Nat.le_of_ble_eq_true rfl) (by rw [e]; rfl) ?_
  refine wq_stK (pc' := 3) (L' := [92233720368547758093]) (st' := [1]) rfl rfl rfl (fun _ => rfl) (fun _ => rfl) ?_
  refine wq_if_eq rfl rfl (by decide) (fun h => absurd h (by decide)) (fun _ => ?_)
  refine wq_stK (pc' := 7) (L' := [92233720368547758093]) (st' := [92233720368547758093]) rfl rfl rfl (fun _ => rfl) (fun _ => rfl) ?_
  refine wq_stK (pc' := 10) (L' := [92233720368547758093]) (st' := [0]) rfl rfl rfl (fun _ => rfl) (fun _ => rfl) ?_
  refine wq_goto rfl rfl ?_
  exact wq_iret rfl (by decide) rfl wq_k0
theorem lj_6 {d : Nat} {sh : List (Nat × Nat)} {F : wq_F} : mq (d + 2) 6 [92233720368547758093] sh F (wq_k (some 21) sh F) := by
  have e : ev_ent [92233720368547758093] = [92233720368547758093] := by
    rfl
  refine mq_of (maxL := 1) (rt := (some .int)) (code := (ev_un al_mJ0_length_8abf5.2.2.2.2)) (L := [92233720368547758093]) rfl (by rw [e]; exact Nat.le_of_ble_eq_true rfl) (by rw [e]; rfl) ?_
  refine wq_stK (pc' := 1) (L' := [92233720368547758093]) (st' := [92233720368547758093]) rfl rfl rfl (fun _ => rfl) (fun _ => rfl) ?_
  refine wq_stK (pc' := 4) (L' := [92233720368547758093]) (st' := [110680464442257309709]) rfl rfl rfl (fun _ => rfl) (fun _ => rfl) ?_
  refine wq_stK (pc' := 5) (L' := [92233720368547758093]) (st' := [21]) rfl rfl rfl (fun _ => rfl) (fun _ => rfl) ?_
  refine wq_stK (pc' := 6) (L' := [92233720368547758093]) (st' := [92233720368547758093, 21]) rfl rfl rfl (fun _ => rfl) (fun _ => rfl) ?_
  refine wq_virtKI (x := 0) (as := [92233720368547758093]) rfl rfl rfl rfl (by decide) (Nat.le_of_ble_eq_true rfl) rfl (Nat.le_of_ble_eq_true rfl) rfl lj_7 ?_
  refine wq_stK (pc' := 10) (L' := [92233720368547758093]) (st' := [21]) rfl rfl rfl (fun _ => rfl) (fun _ => rfl) ?_
  exact wq_iret rfl (by decide) rfl wq_k0
theorem lj_99 {d : Nat} {sh : List (Nat × Nat)} {F : wq_F} {c : Nat} (hc : c < 128) : mq (d + 1) 99 [c] sh F (wq_k (some 1) sh F) := by
  have e : ev_ent [c] = [c] := by
    show ev_ent (c :: []) = _
    rw [wm_entI (show c < 4294967296 by omega)]
    rfl
  refine mq_of (maxL := 1) (rt := (some .boolean)) (code := (ev_un al_mJ1_canEncode_9a6ad.2.2.2.2)) (L := [c]) rfl (by rw [e]; exact Nat.le_of_ble_eq_true rfl) (by rw [e]; rfl) ?_
  refine wq_iload_n rfl rfl (show c < 4294967296 by omega) ?_
  refine wq_if_lt rfl rfl (show c < 4294967296 by omega) (fun h => absurd h (by omega)) (fun _ => ?_)
  refine wq_iload_n rfl rfl (show c < 4294967296 by omega) ?_
  refine wq_sipush rfl rfl ?_
  refine wq_ic_gt rfl rfl (show c < 4294967296 by omega) (by decide) (fun h => absurd h (by unfold ev_s; omega)) (fun _ => ?_)
  refine wq_iconst rfl rfl ?_
  refine wq_goto rfl rfl ?_
  exact wq_iret rfl (by decide) rfl wq_k0
theorem lj_101 {d : Nat} {sh : List (Nat × Nat)} {F : wq_F} {c : Nat} (hc : c < 128) : mq (d + 1) 101 [110680464442257309709, c, 0, 21] sh F (wq_k (some (lx_ix c)) sh F) := by
  have hb : ev_b8 c = c := by
    unfold ev_b8
    rw [Nat.mod_eq_of_lt (show c < 256 by omega), Nat.blt_eq.mpr hc, cond_true]
  have e : ev_ent [110680464442257309709, c, 0, 21] = [110680464442257309709, c, 0, 21] := by
    show 110680464442257309709 :: ev_ent (c :: [0, 21]) = _
    rw [wm_entI (show c < 4294967296 by omega)]
    rfl
  refine mq_of (maxL := 6) (rt := (some .int)) (code := (ev_un al_mJ1_indexOfChar_4cfef.2.2.2.2)) (L := [110680464442257309709, c, 0, 21, 73786976294838206464, 73786976294838206464]) rfl (by rw [e]; exact Nat.le_of_ble_eq_true rfl) (by rw [e]; rfl) ?_
  refine wq_iload_n rfl rfl (show c < 4294967296 by omega) ?_
  refine wq_i2b rfl (show c < 4294967296 by omega) ?_
  refine wq_top hb ?_
  refine wq_istore rfl (show c < 4294967296 by omega) (Nat.le_of_ble_eq_true rfl) (Or.inr ⟨_, rfl, rfl⟩) (L' := [110680464442257309709, c, 0, 21, c, 73786976294838206464]) rfl ?_
  refine wq_iload_n rfl rfl (by decide) ?_
  refine wq_istore rfl (by decide) (Nat.le_of_ble_eq_true rfl) (Or.inr ⟨_, rfl, (wq_notL (show c < 4294967296 by omega))⟩) (L' := [110680464442257309709, c, 0, 21, c, 0]) rfl ?_
  refine wq_iload rfl rfl (by decide) ?_
  refine wq_iload_n rfl rfl (by decide) ?_
  refine wq_ic_ge rfl rfl (by decide) (by decide) (fun h => absurd h (by decide)) (fun _ => ?_)
  refine wq_stK (pc' := 14) (L' := [110680464442257309709, c, 0, 21, c, 0]) (st' := [110680464442257309709]) rfl rfl rfl (fun _ => rfl) (fun _ => rfl) ?_
  refine wq_iload rfl rfl (by decide) ?_
  refine wq_stK (pc' := 17) (L' := [110680464442257309709, c, 0, 21, c, 0]) (st' := [43]) rfl rfl rfl (fun _ => rfl) (fun _ => rfl) ?_
  refine wq_iload rfl rfl (show c < 4294967296 by omega) ?_
  refine wq_ic_ne rfl rfl (by decide) (show c < 4294967296 by omega) (fun h0 => ?_) (fun h0 => ?_)
  rotate_left
  · refine wq_iload rfl rfl (by decide) ?_
    exact wq_iret rfl (by decide) rfl (wq_k1 (by subst h0; rfl))
  refine wq_iincZ rfl rfl (by decide) (Or.inr ⟨_, rfl, (wq_notL (show c < 4294967296 by omega))⟩) rfl (z := 1) rfl (L' := [110680464442257309709, c, 0, 21, c, 1]) rfl ?_
  refine wq_goto rfl rfl ?_
  refine wq_iload rfl rfl (by decide) ?_
  refine wq_iload_n rfl rfl (by decide) ?_
  refine wq_ic_ge rfl rfl (by decide) (by decide) (fun h => absurd h (by decide)) (fun _ => ?_)
  refine wq_stK (pc' := 14) (L' := [110680464442257309709, c, 0, 21, c, 1]) (st' := [110680464442257309709]) rfl rfl rfl (fun _ => rfl) (fun _ => rfl) ?_
  refine wq_iload rfl rfl (by decide) ?_
  refine wq_stK (pc' := 17) (L' := [110680464442257309709, c, 0, 21, c, 1]) (st' := [45]) rfl rfl rfl (fun _ => rfl) (fun _ => rfl) ?_
  refine wq_iload rfl rfl (show c < 4294967296 by omega) ?_
  refine wq_ic_ne rfl rfl (by decide) (show c < 4294967296 by omega) (fun h1 => ?_) (fun h1 => ?_)
  rotate_left
  · refine wq_iload rfl rfl (by decide) ?_
    exact wq_iret rfl (by decide) rfl (wq_k1 (by subst h1; rfl))
  refine wq_iincZ rfl rfl (by decide) (Or.inr ⟨_, rfl, (wq_notL (show c < 4294967296 by omega))⟩) rfl (z := 2) rfl (L' := [110680464442257309709, c, 0, 21, c, 2]) rfl ?_
  refine wq_goto rfl rfl ?_
  refine wq_iload rfl rfl (by decide) ?_
  refine wq_iload_n rfl rfl (by decide) ?_
  refine wq_ic_ge rfl rfl (by decide) (by decide) (fun h => absurd h (by decide)) (fun _ => ?_)
  refine wq_stK (pc' := 14) (L' := [110680464442257309709, c, 0, 21, c, 2]) (st' := [110680464442257309709]) rfl rfl rfl (fun _ => rfl) (fun _ => rfl) ?_
  refine wq_iload rfl rfl (by decide) ?_
  refine wq_stK (pc' := 17) (L' := [110680464442257309709, c, 0, 21, c, 2]) (st' := [42]) rfl rfl rfl (fun _ => rfl) (fun _ => rfl) ?_
  refine wq_iload rfl rfl (show c < 4294967296 by omega) ?_
  refine wq_ic_ne rfl rfl (by decide) (show c < 4294967296 by omega) (fun h2 => ?_) (fun h2 => ?_)
  rotate_left
  · refine wq_iload rfl rfl (by decide) ?_
    exact wq_iret rfl (by decide) rfl (wq_k1 (by subst h2; rfl))
  refine wq_iincZ rfl rfl (by decide) (Or.inr ⟨_, rfl, (wq_notL (show c < 4294967296 by omega))⟩) rfl (z := 3) rfl (L' := [110680464442257309709, c, 0, 21, c, 3]) rfl ?_
  refine wq_goto rfl rfl ?_
  refine wq_iload rfl rfl (by decide) ?_
  refine wq_iload_n rfl rfl (by decide) ?_
  refine wq_ic_ge rfl rfl (by decide) (by decide) (fun h => absurd h (by decide)) (fun _ => ?_)
  refine wq_stK (pc' := 14) (L' := [110680464442257309709, c, 0, 21, c, 3]) (st' := [110680464442257309709]) rfl rfl rfl (fun _ => rfl) (fun _ => rfl) ?_
  refine wq_iload rfl rfl (by decide) ?_
  refine wq_stK (pc' := 17) (L' := [110680464442257309709, c, 0, 21, c, 3]) (st' := [37]) rfl rfl rfl (fun _ => rfl) (fun _ => rfl) ?_
  refine wq_iload rfl rfl (show c < 4294967296 by omega) ?_
  refine wq_ic_ne rfl rfl (by decide) (show c < 4294967296 by omega) (fun h3 => ?_) (fun h3 => ?_)
  rotate_left
  · refine wq_iload rfl rfl (by decide) ?_
    exact wq_iret rfl (by decide) rfl (wq_k1 (by subst h3; rfl))
  refine wq_iincZ rfl rfl (by decide) (Or.inr ⟨_, rfl, (wq_notL (show c < 4294967296 by omega))⟩) rfl (z := 4) rfl (L' := [110680464442257309709, c, 0, 21, c, 4]) rfl ?_
  refine wq_goto rfl rfl ?_
  refine wq_iload rfl rfl (by decide) ?_
  refine wq_iload_n rfl rfl (by decide) ?_
  refine wq_ic_ge rfl rfl (by decide) (by decide) (fun h => absurd h (by decide)) (fun _ => ?_)
  refine wq_stK (pc' := 14) (L' := [110680464442257309709, c, 0, 21, c, 4]) (st' := [110680464442257309709]) rfl rfl rfl (fun _ => rfl) (fun _ => rfl) ?_
  refine wq_iload rfl rfl (by decide) ?_
  refine wq_stK (pc' := 17) (L' := [110680464442257309709, c, 0, 21, c, 4]) (st' := [38]) rfl rfl rfl (fun _ => rfl) (fun _ => rfl) ?_
  refine wq_iload rfl rfl (show c < 4294967296 by omega) ?_
  refine wq_ic_ne rfl rfl (by decide) (show c < 4294967296 by omega) (fun h4 => ?_) (fun h4 => ?_)
  rotate_left
  · refine wq_iload rfl rfl (by decide) ?_
    exact wq_iret rfl (by decide) rfl (wq_k1 (by subst h4; rfl))
  refine wq_iincZ rfl rfl (by decide) (Or.inr ⟨_, rfl, (wq_notL (show c < 4294967296 by omega))⟩) rfl (z := 5) rfl (L' := [110680464442257309709, c, 0, 21, c, 5]) rfl ?_
  refine wq_goto rfl rfl ?_
  refine wq_iload rfl rfl (by decide) ?_
  refine wq_iload_n rfl rfl (by decide) ?_
  refine wq_ic_ge rfl rfl (by decide) (by decide) (fun h => absurd h (by decide)) (fun _ => ?_)
  refine wq_stK (pc' := 14) (L' := [110680464442257309709, c, 0, 21, c, 5]) (st' := [110680464442257309709]) rfl rfl rfl (fun _ => rfl) (fun _ => rfl) ?_
  refine wq_iload rfl rfl (by decide) ?_
  refine wq_stK (pc' := 17) (L' := [110680464442257309709, c, 0, 21, c, 5]) (st' := [124]) rfl rfl rfl (fun _ => rfl) (fun _ => rfl) ?_
  refine wq_iload rfl rfl (show c < 4294967296 by omega) ?_
  refine wq_ic_ne rfl rfl (by decide) (show c < 4294967296 by omega) (fun h5 => ?_) (fun h5 => ?_)
  rotate_left
  · refine wq_iload rfl rfl (by decide) ?_
    exact wq_iret rfl (by decide) rfl (wq_k1 (by subst h5; rfl))
  refine wq_iincZ rfl rfl (by decide) (Or.inr ⟨_, rfl, (wq_notL (show c < 4294967296 by omega))⟩) rfl (z := 6) rfl (L' := [110680464442257309709, c, 0, 21, c, 6]) rfl ?_
  refine wq_goto rfl rfl ?_
  refine wq_iload rfl rfl (by decide) ?_
  refine wq_iload_n rfl rfl (by decide) ?_
  refine wq_ic_ge rfl rfl (by decide) (by decide) (fun h => absurd h (by decide)) (fun _ => ?_)
  refine wq_stK (pc' := 14) (L' := [110680464442257309709, c, 0, 21, c, 6]) (st' := [110680464442257309709]) rfl rfl rfl (fun _ => rfl) (fun _ => rfl) ?_
  refine wq_iload rfl rfl (by decide) ?_
  refine wq_stK (pc' := 17) (L' := [110680464442257309709, c, 0, 21, c, 6]) (st' := [126]) rfl rfl rfl (fun _ => rfl) (fun _ => rfl) ?_
  refine wq_iload rfl rfl (show c < 4294967296 by omega) ?_
  refine wq_ic_ne rfl rfl (by decide) (show c < 4294967296 by omega) (fun h6 => ?_) (fun h6 => ?_)
  rotate_left
  · refine wq_iload rfl rfl (by decide) ?_
    exact wq_iret rfl (by decide) rfl (wq_k1 (by subst h6; rfl))
  refine wq_iincZ rfl rfl (by decide) (Or.inr ⟨_, rfl, (wq_notL (show c < 4294967296 by omega))⟩) rfl (z := 7) rfl (L' := [110680464442257309709, c, 0, 21, c, 7]) rfl ?_
  refine wq_goto rfl rfl ?_
  refine wq_iload rfl rfl (by decide) ?_
  refine wq_iload_n rfl rfl (by decide) ?_
  refine wq_ic_ge rfl rfl (by decide) (by decide) (fun h => absurd h (by decide)) (fun _ => ?_)
  refine wq_stK (pc' := 14) (L' := [110680464442257309709, c, 0, 21, c, 7]) (st' := [110680464442257309709]) rfl rfl rfl (fun _ => rfl) (fun _ => rfl) ?_
  refine wq_iload rfl rfl (by decide) ?_
  refine wq_stK (pc' := 17) (L' := [110680464442257309709, c, 0, 21, c, 7]) (st' := [60]) rfl rfl rfl (fun _ => rfl) (fun _ => rfl) ?_
  refine wq_iload rfl rfl (show c < 4294967296 by omega) ?_
  refine wq_ic_ne rfl rfl (by decide) (show c < 4294967296 by omega) (fun h7 => ?_) (fun h7 => ?_)
  rotate_left
  · refine wq_iload rfl rfl (by decide) ?_
    exact wq_iret rfl (by decide) rfl (wq_k1 (by subst h7; rfl))
  refine wq_iincZ rfl rfl (by decide) (Or.inr ⟨_, rfl, (wq_notL (show c < 4294967296 by omega))⟩) rfl (z := 8) rfl (L' := [110680464442257309709, c, 0, 21, c, 8]) rfl ?_
  refine wq_goto rfl rfl ?_
  refine wq_iload rfl rfl (by decide) ?_
  refine wq_iload_n rfl rfl (by decide) ?_
  refine wq_ic_ge rfl rfl (by decide) (by decide) (fun h => absurd h (by decide)) (fun _ => ?_)
  refine wq_stK (pc' := 14) (L' := [110680464442257309709, c, 0, 21, c, 8]) (st' := [110680464442257309709]) rfl rfl rfl (fun _ => rfl) (fun _ => rfl) ?_
  refine wq_iload rfl rfl (by decide) ?_
  refine wq_stK (pc' := 17) (L' := [110680464442257309709, c, 0, 21, c, 8]) (st' := [62]) rfl rfl rfl (fun _ => rfl) (fun _ => rfl) ?_
  refine wq_iload rfl rfl (show c < 4294967296 by omega) ?_
  refine wq_ic_ne rfl rfl (by decide) (show c < 4294967296 by omega) (fun h8 => ?_) (fun h8 => ?_)
  rotate_left
  · refine wq_iload rfl rfl (by decide) ?_
    exact wq_iret rfl (by decide) rfl (wq_k1 (by subst h8; rfl))
  refine wq_iincZ rfl rfl (by decide) (Or.inr ⟨_, rfl, (wq_notL (show c < 4294967296 by omega))⟩) rfl (z := 9) rfl (L' := [110680464442257309709, c, 0, 21, c, 9]) rfl ?_
  refine wq_goto rfl rfl ?_
  refine wq_iload rfl rfl (by decide) ?_
  refine wq_iload_n rfl rfl (by decide) ?_
  refine wq_ic_ge rfl rfl (by decide) (by decide) (fun h => absurd h (by decide)) (fun _ => ?_)
  refine wq_stK (pc' := 14) (L' := [110680464442257309709, c, 0, 21, c, 9]) (st' := [110680464442257309709]) rfl rfl rfl (fun _ => rfl) (fun _ => rfl) ?_
  refine wq_iload rfl rfl (by decide) ?_
  refine wq_stK (pc' := 17) (L' := [110680464442257309709, c, 0, 21, c, 9]) (st' := [61]) rfl rfl rfl (fun _ => rfl) (fun _ => rfl) ?_
  refine wq_iload rfl rfl (show c < 4294967296 by omega) ?_
  refine wq_ic_ne rfl rfl (by decide) (show c < 4294967296 by omega) (fun h9 => ?_) (fun h9 => ?_)
  rotate_left
  · refine wq_iload rfl rfl (by decide) ?_
    exact wq_iret rfl (by decide) rfl (wq_k1 (by subst h9; rfl))
  refine wq_iincZ rfl rfl (by decide) (Or.inr ⟨_, rfl, (wq_notL (show c < 4294967296 by omega))⟩) rfl (z := 10) rfl (L' := [110680464442257309709, c, 0, 21, c, 10]) rfl ?_
  refine wq_goto rfl rfl ?_
  refine wq_iload rfl rfl (by decide) ?_
  refine wq_iload_n rfl rfl (by decide) ?_
  refine wq_ic_ge rfl rfl (by decide) (by decide) (fun h => absurd h (by decide)) (fun _ => ?_)
  refine wq_stK (pc' := 14) (L' := [110680464442257309709, c, 0, 21, c, 10]) (st' := [110680464442257309709]) rfl rfl rfl (fun _ => rfl) (fun _ => rfl) ?_
  refine wq_iload rfl rfl (by decide) ?_
  refine wq_stK (pc' := 17) (L' := [110680464442257309709, c, 0, 21, c, 10]) (st' := [35]) rfl rfl rfl (fun _ => rfl) (fun _ => rfl) ?_
  refine wq_iload rfl rfl (show c < 4294967296 by omega) ?_
  refine wq_ic_ne rfl rfl (by decide) (show c < 4294967296 by omega) (fun h10 => ?_) (fun h10 => ?_)
  rotate_left
  · refine wq_iload rfl rfl (by decide) ?_
    exact wq_iret rfl (by decide) rfl (wq_k1 (by subst h10; rfl))
  refine wq_iincZ rfl rfl (by decide) (Or.inr ⟨_, rfl, (wq_notL (show c < 4294967296 by omega))⟩) rfl (z := 11) rfl (L' := [110680464442257309709, c, 0, 21, c, 11]) rfl ?_
  refine wq_goto rfl rfl ?_
  refine wq_iload rfl rfl (by decide) ?_
  refine wq_iload_n rfl rfl (by decide) ?_
  refine wq_ic_ge rfl rfl (by decide) (by decide) (fun h => absurd h (by decide)) (fun _ => ?_)
  refine wq_stK (pc' := 14) (L' := [110680464442257309709, c, 0, 21, c, 11]) (st' := [110680464442257309709]) rfl rfl rfl (fun _ => rfl) (fun _ => rfl) ?_
  refine wq_iload rfl rfl (by decide) ?_
  refine wq_stK (pc' := 17) (L' := [110680464442257309709, c, 0, 21, c, 11]) (st' := [40]) rfl rfl rfl (fun _ => rfl) (fun _ => rfl) ?_
  refine wq_iload rfl rfl (show c < 4294967296 by omega) ?_
  refine wq_ic_ne rfl rfl (by decide) (show c < 4294967296 by omega) (fun h11 => ?_) (fun h11 => ?_)
  rotate_left
  · refine wq_iload rfl rfl (by decide) ?_
    exact wq_iret rfl (by decide) rfl (wq_k1 (by subst h11; rfl))
  refine wq_iincZ rfl rfl (by decide) (Or.inr ⟨_, rfl, (wq_notL (show c < 4294967296 by omega))⟩) rfl (z := 12) rfl (L' := [110680464442257309709, c, 0, 21, c, 12]) rfl ?_
  refine wq_goto rfl rfl ?_
  refine wq_iload rfl rfl (by decide) ?_
  refine wq_iload_n rfl rfl (by decide) ?_
  refine wq_ic_ge rfl rfl (by decide) (by decide) (fun h => absurd h (by decide)) (fun _ => ?_)
  refine wq_stK (pc' := 14) (L' := [110680464442257309709, c, 0, 21, c, 12]) (st' := [110680464442257309709]) rfl rfl rfl (fun _ => rfl) (fun _ => rfl) ?_
  refine wq_iload rfl rfl (by decide) ?_
  refine wq_stK (pc' := 17) (L' := [110680464442257309709, c, 0, 21, c, 12]) (st' := [41]) rfl rfl rfl (fun _ => rfl) (fun _ => rfl) ?_
  refine wq_iload rfl rfl (show c < 4294967296 by omega) ?_
  refine wq_ic_ne rfl rfl (by decide) (show c < 4294967296 by omega) (fun h12 => ?_) (fun h12 => ?_)
  rotate_left
  · refine wq_iload rfl rfl (by decide) ?_
    exact wq_iret rfl (by decide) rfl (wq_k1 (by subst h12; rfl))
  refine wq_iincZ rfl rfl (by decide) (Or.inr ⟨_, rfl, (wq_notL (show c < 4294967296 by omega))⟩) rfl (z := 13) rfl (L' := [110680464442257309709, c, 0, 21, c, 13]) rfl ?_
  refine wq_goto rfl rfl ?_
  refine wq_iload rfl rfl (by decide) ?_
  refine wq_iload_n rfl rfl (by decide) ?_
  refine wq_ic_ge rfl rfl (by decide) (by decide) (fun h => absurd h (by decide)) (fun _ => ?_)
  refine wq_stK (pc' := 14) (L' := [110680464442257309709, c, 0, 21, c, 13]) (st' := [110680464442257309709]) rfl rfl rfl (fun _ => rfl) (fun _ => rfl) ?_
  refine wq_iload rfl rfl (by decide) ?_
  refine wq_stK (pc' := 17) (L' := [110680464442257309709, c, 0, 21, c, 13]) (st' := [123]) rfl rfl rfl (fun _ => rfl) (fun _ => rfl) ?_
  refine wq_iload rfl rfl (show c < 4294967296 by omega) ?_
  refine wq_ic_ne rfl rfl (by decide) (show c < 4294967296 by omega) (fun h13 => ?_) (fun h13 => ?_)
  rotate_left
  · refine wq_iload rfl rfl (by decide) ?_
    exact wq_iret rfl (by decide) rfl (wq_k1 (by subst h13; rfl))
  refine wq_iincZ rfl rfl (by decide) (Or.inr ⟨_, rfl, (wq_notL (show c < 4294967296 by omega))⟩) rfl (z := 14) rfl (L' := [110680464442257309709, c, 0, 21, c, 14]) rfl ?_
  refine wq_goto rfl rfl ?_
  refine wq_iload rfl rfl (by decide) ?_
  refine wq_iload_n rfl rfl (by decide) ?_
  refine wq_ic_ge rfl rfl (by decide) (by decide) (fun h => absurd h (by decide)) (fun _ => ?_)
  refine wq_stK (pc' := 14) (L' := [110680464442257309709, c, 0, 21, c, 14]) (st' := [110680464442257309709]) rfl rfl rfl (fun _ => rfl) (fun _ => rfl) ?_
  refine wq_iload rfl rfl (by decide) ?_
  refine wq_stK (pc' := 17) (L' := [110680464442257309709, c, 0, 21, c, 14]) (st' := [125]) rfl rfl rfl (fun _ => rfl) (fun _ => rfl) ?_
  refine wq_iload rfl rfl (show c < 4294967296 by omega) ?_
  refine wq_ic_ne rfl rfl (by decide) (show c < 4294967296 by omega) (fun h14 => ?_) (fun h14 => ?_)
  rotate_left
  · refine wq_iload rfl rfl (by decide) ?_
    exact wq_iret rfl (by decide) rfl (wq_k1 (by subst h14; rfl))
  refine wq_iincZ rfl rfl (by decide) (Or.inr ⟨_, rfl, (wq_notL (show c < 4294967296 by omega))⟩) rfl (z := 15) rfl (L' := [110680464442257309709, c, 0, 21, c, 15]) rfl ?_
  refine wq_goto rfl rfl ?_
  refine wq_iload rfl rfl (by decide) ?_
  refine wq_iload_n rfl rfl (by decide) ?_
  refine wq_ic_ge rfl rfl (by decide) (by decide) (fun h => absurd h (by decide)) (fun _ => ?_)
  refine wq_stK (pc' := 14) (L' := [110680464442257309709, c, 0, 21, c, 15]) (st' := [110680464442257309709]) rfl rfl rfl (fun _ => rfl) (fun _ => rfl) ?_
  refine wq_iload rfl rfl (by decide) ?_
  refine wq_stK (pc' := 17) (L' := [110680464442257309709, c, 0, 21, c, 15]) (st' := [91]) rfl rfl rfl (fun _ => rfl) (fun _ => rfl) ?_
  refine wq_iload rfl rfl (show c < 4294967296 by omega) ?_
  refine wq_ic_ne rfl rfl (by decide) (show c < 4294967296 by omega) (fun h15 => ?_) (fun h15 => ?_)
  rotate_left
  · refine wq_iload rfl rfl (by decide) ?_
    exact wq_iret rfl (by decide) rfl (wq_k1 (by subst h15; rfl))
  refine wq_iincZ rfl rfl (by decide) (Or.inr ⟨_, rfl, (wq_notL (show c < 4294967296 by omega))⟩) rfl (z := 16) rfl (L' := [110680464442257309709, c, 0, 21, c, 16]) rfl ?_
  refine wq_goto rfl rfl ?_
  refine wq_iload rfl rfl (by decide) ?_
  refine wq_iload_n rfl rfl (by decide) ?_
  refine wq_ic_ge rfl rfl (by decide) (by decide) (fun h => absurd h (by decide)) (fun _ => ?_)
  refine wq_stK (pc' := 14) (L' := [110680464442257309709, c, 0, 21, c, 16]) (st' := [110680464442257309709]) rfl rfl rfl (fun _ => rfl) (fun _ => rfl) ?_
  refine wq_iload rfl rfl (by decide) ?_
  refine wq_stK (pc' := 17) (L' := [110680464442257309709, c, 0, 21, c, 16]) (st' := [93]) rfl rfl rfl (fun _ => rfl) (fun _ => rfl) ?_
  refine wq_iload rfl rfl (show c < 4294967296 by omega) ?_
  refine wq_ic_ne rfl rfl (by decide) (show c < 4294967296 by omega) (fun h16 => ?_) (fun h16 => ?_)
  rotate_left
  · refine wq_iload rfl rfl (by decide) ?_
    exact wq_iret rfl (by decide) rfl (wq_k1 (by subst h16; rfl))
  refine wq_iincZ rfl rfl (by decide) (Or.inr ⟨_, rfl, (wq_notL (show c < 4294967296 by omega))⟩) rfl (z := 17) rfl (L' := [110680464442257309709, c, 0, 21, c, 17]) rfl ?_
  refine wq_goto rfl rfl ?_
  refine wq_iload rfl rfl (by decide) ?_
  refine wq_iload_n rfl rfl (by decide) ?_
  refine wq_ic_ge rfl rfl (by decide) (by decide) (fun h => absurd h (by decide)) (fun _ => ?_)
  refine wq_stK (pc' := 14) (L' := [110680464442257309709, c, 0, 21, c, 17]) (st' := [110680464442257309709]) rfl rfl rfl (fun _ => rfl) (fun _ => rfl) ?_
  refine wq_iload rfl rfl (by decide) ?_
  refine wq_stK (pc' := 17) (L' := [110680464442257309709, c, 0, 21, c, 17]) (st' := [59]) rfl rfl rfl (fun _ => rfl) (fun _ => rfl) ?_
  refine wq_iload rfl rfl (show c < 4294967296 by omega) ?_
  refine wq_ic_ne rfl rfl (by decide) (show c < 4294967296 by omega) (fun h17 => ?_) (fun h17 => ?_)
  rotate_left
  · refine wq_iload rfl rfl (by decide) ?_
    exact wq_iret rfl (by decide) rfl (wq_k1 (by subst h17; rfl))
  refine wq_iincZ rfl rfl (by decide) (Or.inr ⟨_, rfl, (wq_notL (show c < 4294967296 by omega))⟩) rfl (z := 18) rfl (L' := [110680464442257309709, c, 0, 21, c, 18]) rfl ?_
  refine wq_goto rfl rfl ?_
  refine wq_iload rfl rfl (by decide) ?_
  refine wq_iload_n rfl rfl (by decide) ?_
  refine wq_ic_ge rfl rfl (by decide) (by decide) (fun h => absurd h (by decide)) (fun _ => ?_)
  refine wq_stK (pc' := 14) (L' := [110680464442257309709, c, 0, 21, c, 18]) (st' := [110680464442257309709]) rfl rfl rfl (fun _ => rfl) (fun _ => rfl) ?_
  refine wq_iload rfl rfl (by decide) ?_
  refine wq_stK (pc' := 17) (L' := [110680464442257309709, c, 0, 21, c, 18]) (st' := [58]) rfl rfl rfl (fun _ => rfl) (fun _ => rfl) ?_
  refine wq_iload rfl rfl (show c < 4294967296 by omega) ?_
  refine wq_ic_ne rfl rfl (by decide) (show c < 4294967296 by omega) (fun h18 => ?_) (fun h18 => ?_)
  rotate_left
  · refine wq_iload rfl rfl (by decide) ?_
    exact wq_iret rfl (by decide) rfl (wq_k1 (by subst h18; rfl))
  refine wq_iincZ rfl rfl (by decide) (Or.inr ⟨_, rfl, (wq_notL (show c < 4294967296 by omega))⟩) rfl (z := 19) rfl (L' := [110680464442257309709, c, 0, 21, c, 19]) rfl ?_
  refine wq_goto rfl rfl ?_
  refine wq_iload rfl rfl (by decide) ?_
  refine wq_iload_n rfl rfl (by decide) ?_
  refine wq_ic_ge rfl rfl (by decide) (by decide) (fun h => absurd h (by decide)) (fun _ => ?_)
  refine wq_stK (pc' := 14) (L' := [110680464442257309709, c, 0, 21, c, 19]) (st' := [110680464442257309709]) rfl rfl rfl (fun _ => rfl) (fun _ => rfl) ?_
  refine wq_iload rfl rfl (by decide) ?_
  refine wq_stK (pc' := 17) (L' := [110680464442257309709, c, 0, 21, c, 19]) (st' := [44]) rfl rfl rfl (fun _ => rfl) (fun _ => rfl) ?_
  refine wq_iload rfl rfl (show c < 4294967296 by omega) ?_
  refine wq_ic_ne rfl rfl (by decide) (show c < 4294967296 by omega) (fun h19 => ?_) (fun h19 => ?_)
  rotate_left
  · refine wq_iload rfl rfl (by decide) ?_
    exact wq_iret rfl (by decide) rfl (wq_k1 (by subst h19; rfl))
  refine wq_iincZ rfl rfl (by decide) (Or.inr ⟨_, rfl, (wq_notL (show c < 4294967296 by omega))⟩) rfl (z := 20) rfl (L' := [110680464442257309709, c, 0, 21, c, 20]) rfl ?_
  refine wq_goto rfl rfl ?_
  refine wq_iload rfl rfl (by decide) ?_
  refine wq_iload_n rfl rfl (by decide) ?_
  refine wq_ic_ge rfl rfl (by decide) (by decide) (fun h => absurd h (by decide)) (fun _ => ?_)
  refine wq_stK (pc' := 14) (L' := [110680464442257309709, c, 0, 21, c, 20]) (st' := [110680464442257309709]) rfl rfl rfl (fun _ => rfl) (fun _ => rfl) ?_
  refine wq_iload rfl rfl (by decide) ?_
  refine wq_stK (pc' := 17) (L' := [110680464442257309709, c, 0, 21, c, 20]) (st' := [46]) rfl rfl rfl (fun _ => rfl) (fun _ => rfl) ?_
  refine wq_iload rfl rfl (show c < 4294967296 by omega) ?_
  refine wq_ic_ne rfl rfl (by decide) (show c < 4294967296 by omega) (fun h20 => ?_) (fun h20 => ?_)
  rotate_left
  · refine wq_iload rfl rfl (by decide) ?_
    exact wq_iret rfl (by decide) rfl (wq_k1 (by subst h20; rfl))
  refine wq_iincZ rfl rfl (by decide) (Or.inr ⟨_, rfl, (wq_notL (show c < 4294967296 by omega))⟩) rfl (z := 21) rfl (L' := [110680464442257309709, c, 0, 21, c, 21]) rfl ?_
  refine wq_goto rfl rfl ?_
  refine wq_iload rfl rfl (by decide) ?_
  refine wq_iload_n rfl rfl (by decide) ?_
  refine wq_ic_ge rfl rfl (by decide) (by decide) (fun _ => ?_) (fun h => absurd h (by decide))
  refine wq_iconst rfl rfl ?_
  exact wq_iret rfl (by decide) rfl (wq_k1 (by unfold lx_ix; rw [if_neg (fun e => h0 e.symm), if_neg (fun e => h1 e.symm), if_neg (fun e => h2 e.symm), if_neg (fun e => h3 e.symm), if_neg (fun e => h4 e.symm), if_neg (fun e => h5 e.symm), if_neg (fun e => h6 e.symm), if_neg (fun e => h7 e.symm), if_neg (fun e => h8 e.symm), if_neg (fun e => h9 e.symm), if_neg (fun e => h10 e.symm), if_neg (fun e => h11 e.symm), if_neg (fun e => h12 e.symm), if_neg (fun e => h13 e.symm), if_neg (fun e => h14 e.symm), if_neg (fun e => h15 e.symm), if_neg (fun e => h16 e.symm), if_neg (fun e => h17 e.symm), if_neg (fun e => h18 e.symm), if_neg (fun e => h19 e.symm), if_neg (fun e => h20 e.symm)]))
theorem lj_100 {d : Nat} {sh : List (Nat × Nat)} {F : wq_F} {c : Nat} (hc : c < 128) : mq (d + 2) 100 [110680464442257309709, c, 0, 21] sh F (wq_k (some (lx_ix c)) sh F) := by
  have e : ev_ent [110680464442257309709, c, 0, 21] = [110680464442257309709, c, 0, 21] := by
    show 110680464442257309709 :: ev_ent (c :: [0, 21]) = _
    rw [wm_entI (show c < 4294967296 by omega)]
    rfl
  refine mq_of (maxL := 4) (rt := (some .int)) (code := (ev_un al_mJ1_indexOf_4cfef.2.2.2.2)) (L := [110680464442257309709, c, 0, 21]) rfl (by rw [e]; exact Nat.le_of_ble_eq_true rfl) (by rw [e]; rfl) ?_
  refine wq_iload_n rfl rfl (show c < 4294967296 by omega) ?_
  refine wq_statKI (x := 1) (as := [c]) rfl (by decide) (Nat.le_of_ble_eq_true rfl) rfl (Nat.le_of_ble_eq_true rfl) rfl (lj_99 hc) ?_
  refine wq_if_ne rfl rfl (by decide) (fun _ => ?_) (fun h => absurd h (by decide))
  refine wq_iload_n rfl rfl (by decide) ?_
  refine wq_iconst rfl rfl ?_
  refine wq_max rfl (by decide) (by decide) (Nat.le_of_ble_eq_true rfl) ?_
  refine wq_top (y := 0) (by decide) ?_
  refine wq_istore_n rfl (by decide) (Nat.le_of_ble_eq_true rfl) (Or.inr ⟨_, rfl, (wq_notL (show c < 4294967296 by omega))⟩) (L' := [110680464442257309709, c, 0, 21]) rfl ?_
  refine wq_iload_n rfl rfl (by decide) ?_
  refine wq_stK (pc' := 17) (L' := [110680464442257309709, c, 0, 21]) (st' := [110680464442257309709, 21]) rfl rfl rfl (fun _ => rfl) (fun _ => rfl) ?_
  refine wq_stK (pc' := 18) (L' := [110680464442257309709, c, 0, 21]) (st' := [21, 21]) rfl rfl rfl (fun _ => rfl) (fun _ => rfl) ?_
  refine wq_min rfl (by decide) (by decide) (Nat.le_of_ble_eq_true rfl) ?_
  refine wq_top (y := 21) (by decide) ?_
  refine wq_istore_n rfl (by decide) (Nat.le_of_ble_eq_true rfl) (Or.inr ⟨_, rfl, rfl⟩) (L' := [110680464442257309709, c, 0, 21]) rfl ?_
  refine wq_iload_n rfl rfl (by decide) ?_
  refine wq_iload_n rfl rfl (by decide) ?_
  refine wq_ic_lt rfl rfl (by decide) (by decide) (fun _ => ?_) (fun h => absurd h (by decide))
  refine wq_stK (pc' := 30) (L' := [110680464442257309709, c, 0, 21]) (st' := [110680464442257309709]) rfl rfl rfl (fun _ => rfl) (fun _ => rfl) ?_
  refine wq_iload_n rfl rfl (show c < 4294967296 by omega) ?_
  refine wq_iload_n rfl rfl (by decide) ?_
  refine wq_iload_n rfl rfl (by decide) ?_
  refine wq_statKI (x := (lx_ix c)) (as := [110680464442257309709, c, 0, 21]) rfl (by decide) (Nat.le_of_ble_eq_true rfl) rfl (Nat.le_of_ble_eq_true rfl) rfl (lj_101 hc) ?_
  exact wq_iret rfl (lx_ix_lt _) rfl wq_k0
theorem lj_94 {d : Nat} {sh : List (Nat × Nat)} {F : wq_F} {c : Nat} (hc : c < 128) : mq (d + 3) 94 [92233720368547758093, c, 0] sh F (wq_k (some (lx_ix c)) sh F) := by
  have e : ev_ent [92233720368547758093, c, 0] = [92233720368547758093, c, 0] := by
    show 92233720368547758093 :: ev_ent (c :: [0]) = _
    rw [wm_entI (show c < 4294967296 by omega)]
    rfl
  refine mq_of (maxL := 3) (rt := (some .int)) (code := (ev_un al_mJ0_indexOf_7cf53.2.2.2.2)) (L := [92233720368547758093, c, 0]) rfl (by rw [e]; exact Nat.le_of_ble_eq_true rfl) (by rw [e]; rfl) ?_
  refine wq_stK (pc' := 1) (L' := [92233720368547758093, c, 0]) (st' := [92233720368547758093]) rfl rfl rfl (fun _ => rfl) (fun _ => rfl) ?_
  refine wq_virtKI (x := 1) (as := [92233720368547758093]) rfl rfl rfl rfl (by decide) (Nat.le_of_ble_eq_true rfl) rfl (Nat.le_of_ble_eq_true rfl) rfl lj_2 ?_
  refine wq_if_eq rfl rfl (by decide) (fun h => absurd h (by decide)) (fun _ => ?_)
  refine wq_stK (pc' := 8) (L' := [92233720368547758093, c, 0]) (st' := [92233720368547758093]) rfl rfl rfl (fun _ => rfl) (fun _ => rfl) ?_
  refine wq_stK (pc' := 11) (L' := [92233720368547758093, c, 0]) (st' := [110680464442257309709]) rfl rfl rfl (fun _ => rfl) (fun _ => rfl) ?_
  refine wq_iload_n rfl rfl (show c < 4294967296 by omega) ?_
  refine wq_iload_n rfl rfl (by decide) ?_
  refine wq_stK (pc' := 14) (L' := [92233720368547758093, c, 0]) (st' := [92233720368547758093, 0, c, 110680464442257309709]) rfl rfl rfl (fun _ => rfl) (fun _ => rfl) ?_
  refine wq_virtKI (x := 21) (as := [92233720368547758093]) rfl rfl rfl rfl (by decide) (Nat.le_of_ble_eq_true rfl) rfl (Nat.le_of_ble_eq_true rfl) rfl lj_6 ?_
  refine wq_statKI (x := (lx_ix c)) (as := [110680464442257309709, c, 0, 21]) rfl (by decide) (Nat.le_of_ble_eq_true rfl) rfl (Nat.le_of_ble_eq_true rfl) rfl (lj_100 hc) ?_
  refine wq_goto rfl rfl ?_
  exact wq_iret rfl (lx_ix_lt _) rfl wq_k0
theorem lx_ixT {d : Nat} {sh : List (Nat × Nat)} {F : wq_F} {c : Nat} (hc : c < 128) : mq (d + 4) 93 [92233720368547758093, c] sh F (wq_k (some (lx_ix c)) sh F) := by
  have e : ev_ent [92233720368547758093, c] = [92233720368547758093, c] := by
    show 92233720368547758093 :: ev_ent (c :: []) = _
    rw [wm_entI (show c < 4294967296 by omega)]
    rfl
  refine mq_of (maxL := 2) (rt := (some .int)) (code := (ev_un al_mJ0_indexOf_0f7a4.2.2.2.2)) (L := [92233720368547758093, c]) rfl (by rw [e]; exact Nat.le_of_ble_eq_true rfl) (by rw [e]; rfl) ?_
  refine wq_stK (pc' := 1) (L' := [92233720368547758093, c]) (st' := [92233720368547758093]) rfl rfl rfl (fun _ => rfl) (fun _ => rfl) ?_
  refine wq_iload_n rfl rfl (show c < 4294967296 by omega) ?_
  refine wq_iconst rfl rfl ?_
  refine wq_virtKI (x := (lx_ix c)) (as := [92233720368547758093, c, 0]) rfl rfl rfl rfl (by decide) (Nat.le_of_ble_eq_true rfl) rfl (Nat.le_of_ble_eq_true rfl) rfl (lj_94 hc) ?_
  exact wq_iret rfl (lx_ix_lt _) rfl wq_k0
theorem wq_ixK {d : Nat} {code : List (List ev_I)} {rt : Option FieldType} {pc ln a w nc ns ix r c x : Nat} {L st : List Nat} {sh : List (Nat × Nat)} {F : wq_F} {K : Option Nat → List (Nat × Nat) → wq_F → Nat → Nat → Prop} (hf : ev_ft code pc = some (pc, .invokevirtual ix, ln, a, 2, 1, w)) (hK : ev_isK r = true) (hR : ev_isR r = false) (hl : 2 * st.length ≤ 8) (hm : mq d a [r, c] sh F (wq_k (some x) sh F)) (k : wq (wq_cf d) code rt (pc + 3) L (x :: st) sh F nc ns K) : wq (wq_cf d) code rt pc L (c :: r :: st) sh F nc ns K :=
  wq_virtKI (n := 2) (rest := st) (as := [r, c]) hf rfl hK hR (by decide) (Nat.le_add_left _ _) rfl hl rfl hm k
