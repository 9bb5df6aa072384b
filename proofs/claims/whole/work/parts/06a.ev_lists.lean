/-! ===== 06a: lists read and written by their recursors alone (the kernel goes through them in fewer steps) ===== -/
noncomputable def ev_gt {α : Type} (l : List α) : Nat → Option α := List.rec (fun _ => none) (fun a _ ih n => Bool.rec (ih (Nat.pred n)) (some a) (Nat.beq n 0)) l
noncomputable def ev_put {α : Type} (l : List α) : Nat → α → List α := List.rec (fun _ _ => []) (fun a t ih n x => Bool.rec (a :: ih (Nat.pred n) x) (x :: t) (Nat.beq n 0)) l
theorem ev_gt_ok {α : Type} : ∀ (l : List α) (n : Nat), ev_gt l n = l[n]?
  | [], n => by simp; rfl
  | a :: l, 0 => rfl
  | a :: l, n + 1 => by
    have e : ev_gt (a :: l) (n + 1) = ev_gt l n := rfl
    rw [e, ev_gt_ok l n]
    simp
theorem ev_put_ok {α : Type} : ∀ (l : List α) (n : Nat) (x : α), ev_put l n x = l.set n x
  | [], n, x => rfl
  | a :: l, 0, x => rfl
  | a :: l, n + 1, x => by
    have e : ev_put (a :: l) (n + 1) x = a :: ev_put l n x := rfl
    rw [e, ev_put_ok l n x]
    rfl
/-- a number computed before it goes on -/
noncomputable def ev_fo {α : Type} (n : Nat) (k : Nat → α) : α := Nat.rec (k 0) (fun m _ => k (Nat.succ m)) n
theorem ev_fo_ok {α : Type} (n : Nat) (k : Nat → α) : ev_fo n k = k n := by cases n <;> rfl
noncomputable def ev_zo (h : ev_H) (r : Nat) : Option ev_C := bif ev_isR r then ev_gt h (Nat.sub r 36893488147419103232) else none
theorem ev_zo_ok (h : ev_H) (r : Nat) : ev_zo h r = ev_o h r := by
  unfold ev_zo ev_o
  rw [ev_gt_ok]
  rfl
noncomputable def ev_zset1 (L : List Nat) (i x : Nat) : List Nat := bif Nat.beq i 0 then ev_put L 0 x else match ev_gt L (Nat.pred i) with
  | some y => bif ev_isL y then ev_put (ev_put L (Nat.pred i) 73786976294838206464) i x else ev_put L i x
  | none => ev_put L i x
theorem ev_zset1_ok (L : List Nat) (i x : Nat) : ev_zset1 L i x = ev_set1 L i x := by
  unfold ev_zset1 ev_set1
  simp only [ev_gt_ok, ev_put_ok]
  cases i <;> rfl
noncomputable def ev_zset2 (L : List Nat) (i x : Nat) : List Nat := ev_put (ev_zset1 L i x) (i + 1) 73786976294838206464
theorem ev_zset2_ok (L : List Nat) (i x : Nat) : ev_zset2 L i x = ev_set2 L i x := by
  unfold ev_zset2 ev_set2
  rw [ev_put_ok, ev_zset1_ok]
noncomputable def ev_zldI (d n pc : Nat) (L st : List Nat) : Option ev_F := match ev_gt L n with
  | some x => bif ev_isI x then some (pc + d, L, x :: st) else none
  | none => none
theorem ev_zldI_ok (d n pc : Nat) (L st : List Nat) : ev_zldI d n pc L st = ev_ldI d n pc L st := by unfold ev_zldI ev_ldI; rw [ev_gt_ok]; rfl
noncomputable def ev_zldL (d n pc : Nat) (L st : List Nat) : Option ev_F := match ev_gt L n with
  | some x => bif ev_isL x then some (pc + d, L, x :: st) else none
  | none => none
theorem ev_zldL_ok (d n pc : Nat) (L st : List Nat) : ev_zldL d n pc L st = ev_ldL d n pc L st := by unfold ev_zldL ev_ldL; rw [ev_gt_ok]; rfl
noncomputable def ev_zldR (d n pc : Nat) (L st : List Nat) : Option ev_F := match ev_gt L n with
  | some x => bif ev_isR x || ev_isN x then some (pc + d, L, x :: st) else none
  | none => none
theorem ev_zldR_ok (d n pc : Nat) (L st : List Nat) : ev_zldR d n pc L st = ev_ldR d n pc L st := by unfold ev_zldR ev_ldR; rw [ev_gt_ok]; rfl
/-- has a list a place n? -/
noncomputable def ev_has (L : List Nat) (n : Nat) : Bool := match ev_gt L n with
  | some _ => true
  | none => false
theorem ev_has_ok (L : List Nat) (n : Nat) : ev_has L n = Nat.blt n L.length := by
  unfold ev_has
  rw [ev_gt_ok]
  cases h : L[n]? with
  | none =>
    have := List.getElem?_eq_none_iff.mp h
    cases hq : Nat.blt n L.length
    · rfl
    · have := Nat.blt_eq.mp hq; omega
  | some x =>
    have := (List.getElem?_eq_some_iff.mp h).1
    exact (Nat.blt_eq.mpr this).symm
noncomputable def ev_zstI (d n pc : Nat) (L st : List Nat) : Option ev_F := match st with
  | x :: r => bif ev_isI x && ev_has L n then some (pc + d, ev_zset1 L n x, r) else none
  | [] => none
theorem ev_zstI_ok (d n pc : Nat) (L st : List Nat) : ev_zstI d n pc L st = ev_stI d n pc L st := by unfold ev_zstI ev_stI; simp only [ev_has_ok, ev_zset1_ok]; rfl
noncomputable def ev_zstL (d n pc : Nat) (L st : List Nat) : Option ev_F := match st with
  | x :: r => bif ev_isL x && ev_has L (n + 1) then some (pc + d, ev_zset2 L n x, r) else none
  | [] => none
theorem ev_zstL_ok (d n pc : Nat) (L st : List Nat) : ev_zstL d n pc L st = ev_stL d n pc L st := by unfold ev_zstL ev_stL; simp only [ev_has_ok, ev_zset2_ok]; rfl
noncomputable def ev_zstR (d n pc : Nat) (L st : List Nat) : Option ev_F := match st with
  | x :: r => bif (ev_isR x || ev_isN x) && ev_has L n then some (pc + d, ev_zset1 L n x, r) else none
  | [] => none
theorem ev_zstR_ok (d n pc : Nat) (L st : List Nat) : ev_zstR d n pc L st = ev_stR d n pc L st := by unfold ev_zstR ev_stR; simp only [ev_has_ok, ev_zset1_ok]; rfl
noncomputable def ev_ziinc (n a pc : Nat) (L st : List Nat) : Option ev_F := match ev_gt L n with
  | some x => bif ev_isI x then some (pc + 3, ev_zset1 L n (ev_oAdd x a), st) else none
  | none => none
noncomputable def ev_zgf (a b pc : Nat) (L st : List Nat) (h : ev_H) (nc ns : Nat) : Option ev_G := match st with
  | r :: st' => match ev_zo h r with
    | some (k0, n0, A0) => bif Nat.beq k0 a && Nat.blt b n0 then some ((pc + 3, L, ev_at A0 b :: st'), h, nc, ns) else none
    | none => none
  | _ => none
noncomputable def ev_zpf (nr a b t pc : Nat) (L st : List Nat) (h : ev_H) (nc ns : Nat) : Option ev_G := match st with
  | v :: r :: st' => match ev_zo h r with
    | some (k0, n0, A0) => bif Nat.beq k0 a && Nat.blt b n0 && Nat.ble nr (r - 36893488147419103232) && ev_fit t v then ev_fo (ev_up A0 b v) (fun A1 => some ((pc + 3, L, st'), ev_put h (r - 36893488147419103232) (k0, n0, A1), nc, ns)) else none
    | none => none
  | _ => none
noncomputable def ev_zix (k : Nat) (h : ev_H) (j r : Nat) : Option Nat := match ev_zo h r with
  | some (k0, n0, A0) => bif Nat.beq k0 k && ev_isI j && Nat.blt j n0 && Nat.blt n0 2147483648 then some (ev_at A0 j) else none
  | none => none
theorem ev_zix_ok (k : Nat) (h : ev_H) (j r : Nat) : ev_zix k h j r = ev_ix k h j r := by
  unfold ev_zix ev_ix
  rw [ev_zo_ok]
  cases ev_o h r <;> rfl
noncomputable def ev_zwr (k nr : Nat) (h : ev_H) (j r v : Nat) : Option ev_H := match ev_zo h r with
  | some (k0, n0, A0) => bif Nat.beq k0 k && ev_isI j && Nat.blt j n0 && Nat.blt n0 2147483648 && Nat.ble nr (r - 36893488147419103232) then ev_fo (ev_up A0 j v) (fun A1 => some (ev_put h (r - 36893488147419103232) (k0, n0, A1))) else none
  | none => none
theorem ev_zwr_ok (k nr : Nat) (h : ev_H) (j r v : Nat) : ev_zwr k nr h j r v = ev_wr k nr h j r v := by
  unfold ev_zwr ev_wr
  simp only [ev_zo_ok, ev_put_ok, ev_fo_ok]
  cases ev_o h r <;> rfl
noncomputable def ev_zrdI (k pc : Nat) (L st : List Nat) (h : ev_H) (nc ns : Nat) : Option ev_G := match st with
  | j :: r :: st' => match ev_zix k h j r with
    | some v => some ((pc + 1, L, v :: st'), h, nc, ns)
    | none => none
  | _ => none
theorem ev_zrdI_ok (k pc : Nat) (L st : List Nat) (h : ev_H) (nc ns : Nat) : ev_zrdI k pc L st h nc ns = ev_rdI k pc L st h nc ns := by unfold ev_zrdI ev_rdI; simp only [ev_zix_ok]; rfl
noncomputable def ev_zias (nr pc : Nat) (L st : List Nat) (h : ev_H) (nc ns : Nat) : Option ev_G := match st with
  | v :: j :: r :: st' => bif ev_isI v then (match ev_zwr 1000 nr h j r v with
    | some h' => some ((pc + 1, L, st'), h', nc, ns)
    | none => none) else none
  | _ => none
noncomputable def ev_zisZ (h : ev_H) (st : List Nat) : Bool := match st with
  | r :: _ => (match ev_zo h r with
    | some x => Nat.beq x.1 1002
    | none => false)
  | [] => false
theorem ev_zisZ_ok (h : ev_H) (st : List Nat) : ev_zisZ h st = ev_isZ h st := by unfold ev_zisZ ev_isZ; simp only [ev_zo_ok]; rfl
noncomputable def ev_zbas (nr pc : Nat) (L st : List Nat) (h : ev_H) (nc ns : Nat) : Option ev_G := match st with
  | v :: j :: r :: st' => bif ev_zisZ h (r :: st') then
        (bif Nat.blt v 2 then (match ev_zwr 1002 nr h j r v with
        | some h' => some ((pc + 1, L, st'), h', nc, ns)
        | none => none) else none)
        else bif ev_isI v then (match ev_zwr 1001 nr h j r (ev_b8 v) with
        | some h' => some ((pc + 1, L, st'), h', nc, ns)
        | none => none) else none
  | _ => none
noncomputable def ev_zbal (pc : Nat) (L st : List Nat) (h : ev_H) (nc ns : Nat) : Option ev_G := bif ev_zisZ h st.tail then ev_zrdI 1002 pc L st h nc ns else ev_zrdI 1001 pc L st h nc ns
/-- the first n of a stack turned round, before what follows; what is left -/
noncomputable def ev_tk (n : Nat) : List Nat → List Nat → Option (List Nat × List Nat) := Nat.rec (fun acc st => some (acc, st)) (fun _ ih acc st => match st with
  | x :: r => ih (x :: acc) r
  | [] => none) n
theorem ev_tk_ok : ∀ (n : Nat) (acc st : List Nat), n ≤ st.length → ev_tk n acc st = some ((st.take n).reverse ++ acc, st.drop n)
  | 0, acc, st, _ => by rw [List.take_zero, List.drop_zero]; rfl
  | n + 1, acc, [], h => by simp at h
  | n + 1, acc, x :: r, h => by
    have e : ev_tk (n + 1) acc (x :: r) = ev_tk n (x :: acc) r := rfl
    rw [e, ev_tk_ok n (x :: acc) r (by simpa using h)]
    simp
theorem ev_tk_no : ∀ (n : Nat) (acc st : List Nat), ¬ n ≤ st.length → ev_tk n acc st = none
  | 0, acc, st, h => absurd (Nat.zero_le _) h
  | n + 1, acc, [], _ => rfl
  | n + 1, acc, x :: r, h => by
    have e : ev_tk (n + 1) acc (x :: r) = ev_tk n (x :: acc) r := rfl
    rw [e]
    exact ev_tk_no n _ _ (by simpa using h)
noncomputable def ev_zinv (callf : Nat → List Nat → ev_H → Option ev_A) (mid n pc : Nat) (L st : List Nat) (h : ev_H) (nc ns : Nat) : Option ev_G := match ev_tk n [] st with
  | some (q1, q2) => bif Nat.ble (ev_cat q2) 8 then
    (match callf mid q1 h with
    | some (some r, h', mc, ms) => some ((pc + 3, L, r :: q2), h', nc + mc, ns + ms)
    | some (none, h', mc, ms) => some ((pc + 3, L, q2), h', nc + mc, ns + ms)
    | none => none) else none
  | none => none
theorem ev_zinv_ok (callf : Nat → List Nat → ev_H → Option ev_A) (mid n pc : Nat) (L st : List Nat) (h : ev_H) (nc ns : Nat) : ev_zinv callf mid n pc L st h nc ns = ev_inv callf mid n pc L st h nc ns := by
  unfold ev_zinv ev_inv
  by_cases hn : n ≤ st.length
  · rw [ev_tk_ok n [] st hn, Nat.ble_eq_true_of_le hn]
    simp only [List.append_nil, Bool.true_and]
    rfl
  · rw [ev_tk_no n [] st hn]
    have : Nat.ble n st.length = false := by
      cases hq : Nat.ble n st.length
      · rfl
      · exact absurd (Nat.le_of_ble_eq_true hq) hn
    rw [this]
    rfl
noncomputable def ev_ziv (callf : Nat → List Nat → ev_H → Option ev_A) (a b t pc : Nat) (L st : List Nat) (h : ev_H) (nc ns : Nat) : Option ev_G := match ev_gt st (b - 1) with
  | some r => (match ev_zo h r with
    | some x => bif Nat.beq x.1 t && Nat.blt 0 b then ev_zinv callf a b pc L st h nc ns else none
    | none => none)
  | none => none
theorem ev_ziv_ok (callf : Nat → List Nat → ev_H → Option ev_A) (a b t pc : Nat) (L st : List Nat) (h : ev_H) (nc ns : Nat) (g : ev_G) (hx : ev_ziv callf a b t pc L st h nc ns = some g) : (match st.drop (b - 1) with
  | r :: _ => (match ev_o h r with
    | some x => bif Nat.beq x.1 t && Nat.blt 0 b then ev_inv callf a b pc L st h nc ns else none
    | none => none)
  | [] => none) = some g := by
  unfold ev_ziv at hx
  rw [ev_gt_ok] at hx
  cases hg : st[b - 1]? with
  | none => rw [hg] at hx; cases hx
  | some r =>
    rw [hg] at hx
    have hd : st.drop (b - 1) = r :: st.drop (b - 1 + 1) := by
      obtain ⟨h1, h2⟩ := List.getElem?_eq_some_iff.mp hg
      rw [← h2]
      exact List.drop_eq_getElem_cons h1
    rw [hd]
    simp only [ev_zo_ok, ev_zinv_ok] at hx
    exact hx
