/-! ===== 77: the reference's store: hashOf, intern (wip/whole2/77.txt) ===== -/
theorem od_upS {α : Type} {F : wq_F} {c i v : Nat} {k : wq_F → Option α} : od_up F c i v k = k (wq_up F c i v) := rfl
theorem od_letS {α : Type} {v : Nat} {k : Nat → Option α} : od_let v k = k v := rfl
def rs_ok (F : wq_F) (ls : List (List Nat)) : Prop := F 0 14 = ls.length ∧ F 0 8 = st_off ls ls.length ∧ st_ok rh enR (F 2) (F 3) (F 4) (F 6) (F 7) ls
theorem dkL_23 {n : Nat} {F : wq_F} {b : List Nat} (hb : bf_is (F 8) b) (hl : b.length ≤ 4200) : ∀ g k h : Nat, k ≤ b.length → b.length - k < g → dk_23_4 n g F b.length h k = some (ev_oAnd (ev_oXor (rh_go (b.drop k) h) (ev_oUsh (rh_go (b.drop k) h) 10)) 1023, F)
  | 0, k, h, hk, hg => absurd hg (by omega)
  | g + 1, k, h, hk, hg => by
    show dk_23_4b n (dk_23_4 n g) F b.length h k = _
    unfold dk_23_4b
    by_cases q : k < b.length
    · rw [if_pos ((wd_slt (by omega) (by omega)).mpr q), od_g1 (by omega)]
      show dk_23_4 n g F b.length ((ev_oMul 31 h + F 8 k) % 4294967296) ((k + 1) % 4294967296) = _
      rw [Nat.mod_eq_of_lt (show k + 1 < 4294967296 by omega), dkL_23 hb hl g (k + 1) _ (by omega) (by omega), bf_drop q, hb k q]
      rfl
    · rw [if_neg (fun z => q ((wd_slt (by omega) (by omega)).mp z))]
      have e : k = b.length := by omega
      subst e
      rw [List.drop_length]
      rfl
theorem dkS_23 {n : Nat} {F : wq_F} {b : List Nat} (hb : bf_is (F 8) b) (hl : b.length ≤ 4200) (hn : b.length < n) : dk_23 n F b.length = some (rh b, F) := by
  unfold dk_23
  rw [dkL_23 hb hl n 0 _ (by omega) (by omega), List.drop_zero]
  rfl
theorem dkL_22_43z {n : Nat} {r16 : wq_F → Nat → Nat → Nat → Option (Nat × wq_F)} {F : wq_F} {v1 v2 s k : Nat} : ∀ g, 0 < g → dk_22_43 n r16 g F v1 v2 s 0 k = dk_22_94 n r16 F v1 v2 s 0
  | 0, h => absurd h (by omega)
  | g + 1, _ => by
    show dk_22_43b n r16 (dk_22_43 n r16 g) F v1 v2 s 0 k = _
    unfold dk_22_43b
    by_cases q : ev_s k < ev_s (F 0 20)
    · rw [if_pos q, if_pos rfl]
    · rw [if_neg q]
theorem dkL_22_43 {n : Nat} {r16 : wq_F → Nat → Nat → Nat → Option (Nat × wq_F)} {F : wq_F} {v1 v2 s : Nat} {b c : List Nat} (hb : bf_is (F 8) b) (hlb : F 0 20 = b.length) (hl : b.length ≤ 4200) (hs : s < 3000) (ho : F 3 s + b.length ≤ 40000) (hc : ∀ k, k < c.length → F 2 (F 3 s + k) = c.getD k 0) (hcl : c.length = b.length) : ∀ g k : Nat, k ≤ b.length → b.length - k < g → (∀ j, j < k → b.getD j 0 = c.getD j 0) → dk_22_43 n r16 g F v1 v2 s 1 k = dk_22_94 n r16 F v1 v2 s (if b = c then 1 else 0)
  | 0, k, hk, hg, _ => absurd hg (by omega)
  | g + 1, k, hk, hg, hj => by
    show dk_22_43b n r16 (dk_22_43 n r16 g) F v1 v2 s 1 k = _
    unfold dk_22_43b
    rw [hlb]
    by_cases q : k < b.length
    · rw [if_pos ((wd_slt (by omega) (by omega)).mpr q), if_neg (by decide), od_g1 hs, Nat.mod_eq_of_lt (show F 3 s + k < 4294967296 by omega), od_g1 (by omega), od_letS, od_g1 (by omega), hc k (by omega), hb k q]
      by_cases e : c.getD k 0 = b.getD k 0
      · rw [if_pos e, od_letS, Nat.mod_eq_of_lt (show k + 1 < 4294967296 by omega)]
        exact dkL_22_43 hb hlb hl hs ho hc hcl g (k + 1) (by omega) (by omega) (fun j hj' => by
          by_cases z : j = k
          · rw [z]; exact e.symm
          · exact hj j (by omega))
      · rw [if_neg e, od_letS, dkL_22_43z g (by omega), if_neg (show ¬ b = c from fun z => e (by rw [z]))]
    · rw [if_neg (fun z => q ((wd_slt (by omega) (by omega)).mp z))]
      have e : b = c := bf_eq hcl.symm (fun j hj' => hj j (by omega))
      rw [if_pos e]
/-- the copied bytes -/
def cpb (F : wq_F) (P k l : Nat) : wq_F := fun c i => if c = 2 ∧ P + k ≤ i ∧ i < P + l then ev_b8 (F 8 (i - P)) else F c i
theorem cpb_c {F : wq_F} {P k l c i : Nat} (h : c ≠ 2) : cpb F P k l c i = F c i := if_neg (fun z => h z.1)
theorem dkL_22_196 {n : Nat} {m P l : Nat} (hl : l ≤ 4200) (hP : P + l ≤ 40000) : ∀ g k : Nat, k ≤ l → l - k < g → ∀ F : wq_F, F 0 20 = l → F 0 8 = P → dk_22_196 n g F m k = some (m, wq_up (cpb F P k l) 0 8 (P + l))
  | 0, k, hk, hg, _, _, _ => absurd hg (by omega)
  | g + 1, k, hk, hg, F, h1, h2 => by
    show dk_22_196b n (dk_22_196 n g) F m k = _
    unfold dk_22_196b
    rw [h1, h2]
    by_cases q : k < l
    · rw [if_pos ((wd_slt (by omega) (by omega)).mpr q), od_g1 (by omega), Nat.mod_eq_of_lt (show P + k < 4294967296 by omega), od_g1 (by omega), od_upS, od_letS, Nat.mod_eq_of_lt (show k + 1 < 4294967296 by omega)]
      rw [dkL_22_196 hl hP g (k + 1) (by omega) (by omega) _ (by rw [wq_up_cell (by decide), h1]) (by rw [wq_up_cell (by decide), h2])]
      congr 2
      congr 1
      funext c i
      unfold cpb
      by_cases e : c = 2
      · subst e
        by_cases e2 : i = P + k
        · subst e2
          rw [if_neg (by omega), wq_up_same, if_pos (by omega), show P + k - P = k by omega]
        · rw [wq_up_at e2, wq_up_cell (by decide)]
          by_cases e3 : P + (k + 1) ≤ i ∧ i < P + l
          · rw [if_pos ⟨rfl, e3⟩, if_pos (by omega)]
          · rw [if_neg (fun z => e3 z.2), if_neg (by omega)]
      · rw [if_neg (fun z => e z.1), if_neg (fun z => e z.1), wq_up_cell e]
    · rw [if_neg (fun z => q ((wd_slt (by omega) (by omega)).mp z)), od_letS, od_upS, Nat.mod_eq_of_lt (show P + l < 4294967296 by omega)]
      congr 2
      congr 1
      funext c i
      unfold cpb
      rw [if_neg (by omega)]
/-- a string more -/
def rs_add (F : wq_F) (sort h : Nat) : wq_F := wq_up (cpb (wq_up (wq_up (wq_up (wq_up (wq_up (wq_up F 0 14 (F 0 14 + 1)) 3 (F 0 14) (F 0 8)) 4 (F 0 14) (F 0 20)) 5 (F 0 14) sort) 6 (F 0 14) (F 7 h)) 7 h (F 0 14)) (F 0 8) 0 (F 0 20)) 0 8 (F 0 8 + F 0 20)
theorem dkL_22_new {n g : Nat} {F : wq_F} {sort h : Nat} (h1 : F 0 14 < 3000) (h2 : h < 1024) (h3 : F 0 20 ≤ 4200) (h4 : F 0 8 + F 0 20 ≤ 40000) (hn : F 0 20 < n) : dk_22_16 n (g + 1) F sort h 4294967295 = some (F 0 14, rs_add F sort h) := by
  show dk_22_16b n (dk_22_16 n g) F sort h 4294967295 = _
  unfold dk_22_16b
  rw [if_pos (by decide), od_upS, Nat.mod_eq_of_lt (show F 0 14 + 1 < 4294967296 by omega), od_g1 h1, od_upS, od_g1 h1, od_upS, od_g1 h1, od_upS, od_g1 h2, od_g1 h1, od_upS, od_g1 h2, od_upS]
  have e8 : wq_up F 0 14 (F 0 14 + 1) 0 8 = F 0 8 := wq_up_at (by decide)
  have e20 : ∀ x, wq_up (wq_up F 0 14 (F 0 14 + 1)) 3 (F 0 14) x 0 20 = F 0 20 := fun x => by rw [wq_up_cell (by decide), wq_up_at (by decide)]
  have e7 : ∀ x y z, wq_up (wq_up (wq_up (wq_up F 0 14 (F 0 14 + 1)) 3 (F 0 14) x) 4 (F 0 14) y) 5 (F 0 14) z 7 h = F 7 h := fun x y z => by rw [wq_up_cell (by decide), wq_up_cell (by decide), wq_up_cell (by decide), wq_up_cell (by decide)]
  rw [e8, e20, e7]
  rw [dkL_22_196 (l := F 0 20) (P := F 0 8) h3 h4 n 0 (by omega) (by omega) _ (by rw [wq_up_cell (by decide), wq_up_cell (by decide), wq_up_cell (by decide), wq_up_cell (by decide), e20]) (by rw [wq_up_cell (by decide), wq_up_cell (by decide), wq_up_cell (by decide), wq_up_cell (by decide), wq_up_cell (by decide), e8])]
  rfl
def rs_res (F : wq_F) (sort h : Nat) : Option Nat → Nat × wq_F
  | some s => (s, wq_up F 5 s (if sort = 1 then 1 else F 5 s))
  | none => (F 0 14, rs_add F sort h)
theorem dkL_22_94t {n : Nat} {r16 : wq_F → Nat → Nat → Nat → Option (Nat × wq_F)} {F : wq_F} {v1 v2 s : Nat} (hs : s < 3000) : dk_22_94 n r16 F v1 v2 s 1 = some (s, wq_up F 5 s (if v1 = 1 then 1 else F 5 s)) := by
  unfold dk_22_94
  rw [if_neg (by decide)]
  by_cases q : v1 = 1
  · rw [if_pos q, od_g1 hs, od_upS, if_pos q]
  · rw [if_neg q, od_g1 hs, od_g1 hs, od_upS, if_neg q]
theorem dkL_22_94f {n : Nat} {r16 : wq_F → Nat → Nat → Nat → Option (Nat × wq_F)} {F : wq_F} {v1 v2 s : Nat} (hs : s < 3000) : dk_22_94 n r16 F v1 v2 s 0 = r16 F v1 v2 (F 6 s) := by
  unfold dk_22_94
  rw [if_pos rfl, od_g1 hs]
theorem dkL_22_16 {n : Nat} {F : wq_F} {ls : List (List Nat)} {b : List Nat} {sort : Nat} (hR : rs_ok F ls) (hb : bf_is (F 8) b) (hlb : F 0 20 = b.length) (hl : b.length ≤ 4200) (hn : b.length < n) (hm : ls.length < 3000) (hp : st_off ls ls.length + b.length ≤ 40000) : ∀ g m : Nat, m ≤ ls.length → m < g → dk_22_16 n g F sort (rh b) (enR (lx_lst (fun t => rh (ls.getD t []) == rh b) m)) = some (rs_res F sort (rh b) (lx_lst (fun t => decide (ls.getD t [] = b)) m))
  | 0, m, h1, h2 => absurd h2 (by omega)
  | g + 1, m, h1, h2 => by
    obtain ⟨r1, r2, a1, a2, a3, a4, a5⟩ := hR
    have hpq : ∀ t, decide (ls.getD t [] = b) = true → (rh (ls.getD t []) == rh b) = true := fun t ht => by
      rw [of_decide_eq_true ht]
      exact beq_self_eq_true _
    cases ho : lx_lst (fun t => rh (ls.getD t []) == rh b) m with
    | none =>
      rw [lx_lst_n hpq ho]
      exact dkL_22_new (by omega) (rh_lt b) (by omega) (by omega) (by omega)
    | some s =>
      have hs := lx_lst_some ho
      have hs1 : s < ls.length := by omega
      have hsh : rh (ls.getD s []) = rh b := by
        have := hs.2
        exact eq_of_beq this
      rw [lx_lst_sub hpq ho]
      have hat := a1 s hs1
      have hoff := st_off_mono ls (show s + 1 ≤ ls.length by omega)
      have hoff2 : st_off ls (s + 1) = st_off ls s + (ls.getD s []).length := rfl
      have next : decide (ls.getD s [] = b) = false → dk_22_16 n g F sort (rh b) (F 6 s) = some (rs_res F sort (rh b) (bif decide (ls.getD s [] = b) then some s else lx_lst (fun t => decide (ls.getD t [] = b)) s)) := fun z => by
        rw [z, cond_false, a4 s hs1, hsh]
        exact dkL_22_16 ⟨r1, r2, a1, a2, a3, a4, a5⟩ hb hlb hl hn hm hp g s (by omega) (by omega)
      show dk_22_16b n (dk_22_16 n g) F sort (rh b) s = _
      unfold dk_22_16b
      rw [if_neg (by omega), od_g1 (by omega), hat.2, hlb]
      by_cases q : (ls.getD s []).length = b.length
      · rw [if_pos q, dkL_22_43 hb hlb hl (by omega) (by rw [hat.1]; omega) (c := ls.getD s []) (fun k hk => by rw [hat.1]; exact a2 s k hs1 hk) q n 0 (by omega) (by omega) (fun j hj => absurd hj (by omega))]
        by_cases e : b = ls.getD s []
        · rw [if_pos e, dkL_22_94t (by omega), decide_eq_true e.symm, cond_true]
          rfl
        · rw [if_neg e, dkL_22_94f (by omega)]
          exact next (decide_eq_false (fun z => e z.symm))
      · rw [if_neg q, dkL_22_43z n (by omega), dkL_22_94f (by omega)]
        exact next (decide_eq_false (fun z => q (by rw [z])))
/-- the number of what is in the buffer -/
theorem dkS_22 {n : Nat} {F : wq_F} {ls : List (List Nat)} {b : List Nat} {sort : Nat} (hR : rs_ok F ls) (hb : bf_is (F 8) b) (hlb : F 0 20 = b.length) (hl : b.length ≤ 4200) (hn : b.length < n) (hn2 : ls.length < n) (hm : ls.length < 3000) (hp : st_off ls ls.length + b.length ≤ 40000) : dk_22 n F sort = some (rs_res F sort (rh b) (st_ix ls b)) := by
  unfold dk_22
  rw [hlb, dkS_23 hb hl hn]
  show od_g (rh b < 1024) (dk_22_16 n n F sort (rh b) (F 7 (rh b))) = _
  rw [od_g1 (rh_lt b), hR.2.2.2.2.1 (rh b) (rh_lt b)]
  exact dkL_22_16 hR hb hlb hl hn hm hp n ls.length (Nat.le_refl _) hn2
/-- which strings the store holds then -/
def st_with (ls : List (List Nat)) (b : List Nat) : List (List Nat) := match st_ix ls b with
  | some _ => ls
  | none => ls ++ [b]
theorem rs_add_c {F : wq_F} {sort h c i : Nat} (hc : c ≠ 2 ∧ c ≠ 3 ∧ c ≠ 4 ∧ c ≠ 5 ∧ c ≠ 6 ∧ c ≠ 7) (hi : c = 0 → i ≠ 8 ∧ i ≠ 14) : rs_add F sort h c i = F c i := by
  unfold rs_add
  obtain ⟨h2, h3, h4, h5, h6, h7⟩ := hc
  rw [wq_up_ne (fun z => (hi z.1).1 z.2), cpb_c h2, wq_up_cell h7, wq_up_cell h6, wq_up_cell h5, wq_up_cell h4, wq_up_cell h3, wq_up_ne (fun z => (hi z.1).2 z.2)]
theorem rs_add_ok {F : wq_F} {ls : List (List Nat)} {b : List Nat} {sort : Nat} (hR : rs_ok F ls) (hb : bf_is (F 8) b) (h8 : ∀ k, k < b.length → ev_b8 (b.getD k 0) = b.getD k 0) (hlb : F 0 20 = b.length) (hi : st_ix ls b = none) : rs_ok (rs_add F sort (rh b)) (ls ++ [b]) := by
  obtain ⟨r1, r2, hst⟩ := hR
  have hlen : (ls ++ [b]).length = ls.length + 1 := by rw [List.length_append]; rfl
  have hoff : st_off (ls ++ [b]) (ls.length + 1) = st_off ls ls.length + b.length := by
    show st_off (ls ++ [b]) ls.length + ((ls ++ [b]).getD ls.length []).length = _
    rw [st_off_app ls b (Nat.le_refl _), st_getD_last]
  refine ⟨?_, ?_, ?_⟩
  · rw [hlen]
    unfold rs_add
    rw [wq_up_at (by decide), cpb_c (by decide), wq_up_cell (by decide), wq_up_cell (by decide), wq_up_cell (by decide), wq_up_cell (by decide), wq_up_cell (by decide), wq_up_same, r1]
  · rw [hlen, hoff]
    unfold rs_add
    rw [wq_up_same, r2, hlb]
  · have c3 : ∀ i, rs_add F sort (rh b) 3 i = wq_up F 3 ls.length (st_off ls ls.length) 3 i := fun i => by
      unfold rs_add
      rw [wq_up_cell (by decide), cpb_c (by decide), wq_up_cell (by decide), wq_up_cell (by decide), wq_up_cell (by decide), wq_up_cell (by decide), r1, r2]
      by_cases e : i = ls.length
      · subst e; rw [wq_up_same, wq_up_same]
      · rw [wq_up_at e, wq_up_at e, wq_up_cell (by decide)]
    have c4 : ∀ i, rs_add F sort (rh b) 4 i = wq_up F 4 ls.length b.length 4 i := fun i => by
      unfold rs_add
      rw [wq_up_cell (by decide), cpb_c (by decide), wq_up_cell (by decide), wq_up_cell (by decide), wq_up_cell (by decide), r1, hlb]
      by_cases e : i = ls.length
      · subst e; rw [wq_up_same, wq_up_same]
      · rw [wq_up_at e, wq_up_at e, wq_up_cell (by decide), wq_up_cell (by decide)]
    have c6 : ∀ i, rs_add F sort (rh b) 6 i = wq_up F 6 ls.length (F 7 (rh b)) 6 i := fun i => by
      unfold rs_add
      rw [wq_up_cell (by decide), cpb_c (by decide), wq_up_cell (by decide), r1]
      by_cases e : i = ls.length
      · subst e; rw [wq_up_same, wq_up_same]
      · rw [wq_up_at e, wq_up_at e, wq_up_cell (by decide), wq_up_cell (by decide), wq_up_cell (by decide), wq_up_cell (by decide)]
    have c7 : ∀ i, rs_add F sort (rh b) 7 i = wq_up F 7 (rh b) ls.length 7 i := fun i => by
      unfold rs_add
      rw [wq_up_cell (by decide), cpb_c (by decide), r1]
      by_cases e : i = rh b
      · subst e; rw [wq_up_same, wq_up_same]
      · rw [wq_up_at e, wq_up_at e, wq_up_cell (by decide), wq_up_cell (by decide), wq_up_cell (by decide), wq_up_cell (by decide), wq_up_cell (by decide)]
    have c2 : ∀ i, rs_add F sort (rh b) 2 i = if st_off ls ls.length ≤ i ∧ i < st_off ls ls.length + b.length then ev_b8 (F 8 (i - st_off ls ls.length)) else F 2 i := fun i => by
      unfold rs_add
      rw [wq_up_cell (by decide), r2, hlb]
      unfold cpb
      by_cases e : st_off ls ls.length ≤ i ∧ i < st_off ls ls.length + b.length
      · rw [if_pos (by omega), if_pos e, wq_up_cell (by decide), wq_up_cell (by decide), wq_up_cell (by decide), wq_up_cell (by decide), wq_up_cell (by decide), wq_up_cell (by decide)]
      · rw [if_neg (by omega), if_neg e, wq_up_cell (by decide), wq_up_cell (by decide), wq_up_cell (by decide), wq_up_cell (by decide), wq_up_cell (by decide), wq_up_cell (by decide)]
    refine st_ok_add hst hi ⟨?_, ?_⟩ (fun s hs => ⟨?_, ?_⟩) (fun k hk => ?_) (fun j hj => ?_) ?_ (fun j hj => ?_) (rh_lt b) ?_ (fun s hs => ?_)
    · rw [c3, wq_up_same]
    · rw [c4, wq_up_same]
    · rw [c3, wq_up_at (by omega)]
    · rw [c4, wq_up_at (by omega)]
    · rw [c2, if_pos (by omega), show st_off ls ls.length + k - st_off ls ls.length = k by omega, hb k hk, h8 k hk]
    · rw [c2, if_neg (by omega)]
    · rw [c7, wq_up_same]
      rfl
    · rw [c7, wq_up_at hj]
    · rw [c6, wq_up_same]
    · rw [c6, wq_up_at (by omega)]
theorem rs_res_ok {F : wq_F} {ls : List (List Nat)} {b : List Nat} {sort : Nat} (hR : rs_ok F ls) (hb : bf_is (F 8) b) (h8 : ∀ k, k < b.length → ev_b8 (b.getD k 0) = b.getD k 0) (hlb : F 0 20 = b.length) : rs_ok (rs_res F sort (rh b) (st_ix ls b)).2 (st_with ls b) ∧ (rs_res F sort (rh b) (st_ix ls b)).1 < (st_with ls b).length ∧ (st_with ls b).getD (rs_res F sort (rh b) (st_ix ls b)).1 [] = b := by
  unfold st_with
  cases hi : st_ix ls b with
  | none =>
    have hlen : (ls ++ [b]).length = ls.length + 1 := by rw [List.length_append]; rfl
    refine ⟨rs_add_ok hR hb h8 hlb hi, ?_, ?_⟩
    · show F 0 14 < (ls ++ [b]).length
      rw [hlen, hR.1]
      exact Nat.lt_succ_self _
    · show (ls ++ [b]).getD (F 0 14) [] = b
      rw [hR.1, st_getD_last]
  | some s =>
    have hs := lx_lst_some hi
    refine ⟨?_, hs.1, of_decide_eq_true hs.2⟩
    show rs_ok (wq_up F 5 s (if sort = 1 then 1 else F 5 s)) ls
    obtain ⟨r1, r2, hst⟩ := hR
    have e : ∀ c, c ≠ 5 → wq_up F 5 s (if sort = 1 then 1 else F 5 s) c = F c := fun c hc => by
      funext i
      exact wq_up_cell hc
    refine ⟨?_, ?_, ?_⟩
    · rw [e 0 (by decide)]; exact r1
    · rw [e 0 (by decide)]; exact r2
    · rw [e 2 (by decide), e 3 (by decide), e 4 (by decide), e 6 (by decide), e 7 (by decide)]; exact hst
