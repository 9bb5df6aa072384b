/-! ===== 06b: the evaluator with a quick dispatch (by wip/whole/gen_disp.py): the same answers, fewer steps of the kernel ===== -/
def ev_w1 (f : Option ev_F) (h : ev_H) (nc ns : Nat) : Option ev_G := match f with
  | some f => some (f, h, nc, ns)
  | none => none
def ev_q_l2i (pc : Nat) (L st : List Nat) : Option ev_F := match st with
  | x :: r => bif ev_isL x then some (pc + 1, L, ev_oL2i x :: r) else none
  | _ => none
def ev_q_lushr (pc : Nat) (L st : List Nat) : Option ev_F := match st with
  | y :: x :: r => bif ev_isI y && ev_isL x then some (pc + 1, L, ev_oUshL x y :: r) else none
  | _ => none
def ev_q_dup (pc : Nat) (L st : List Nat) : Option ev_F := match st with
  | x :: r => bif ev_isL x then none else some (pc + 1, L, x :: x :: r)
  | _ => none
def ev_q_iinc (n a pc : Nat) (L st : List Nat) : Option ev_F := match L[n]? with
  | some x => bif ev_isI x && Nat.blt n L.length then some (pc + 3, ev_set1 L n (ev_oAdd x a), st) else none
  | none => none
def ev_q_if (c : Jvm.ClassFile.Cond) (a pc : Nat) (L st : List Nat) : Option ev_F := match st with
  | x :: r => ev_pI x pc a L r (ev_if c x)
  | _ => none
def ev_q_ic (c : Jvm.ClassFile.Cond) (a pc : Nat) (L st : List Nat) : Option ev_F := match st with
  | y :: x :: r => bif ev_isI y then ev_pI x pc a L r (ev_ic c x y) else none
  | _ => none
def ev_q_gf (a b pc : Nat) (L st : List Nat) (h : ev_H) (nc ns : Nat) : Option ev_G := match st with
  | r :: st' => match ev_o h r with
    | some x => bif Nat.beq x.1 a && Nat.blt b x.2.1 then some ((pc + 3, L, ev_at x.2.2 b :: st'), h, nc, ns) else none
    | none => none
  | _ => none
def ev_q_pf (nr a b t pc : Nat) (L st : List Nat) (h : ev_H) (nc ns : Nat) : Option ev_G := match st with
  | v :: r :: st' => match ev_o h r with
    | some x => bif Nat.beq x.1 a && Nat.blt b x.2.1 && Nat.ble nr (r - 36893488147419103232) && ev_fit t v then some ((pc + 3, L, st'), h.set (r - 36893488147419103232) (x.1, x.2.1, ev_up x.2.2 b v), nc, ns) else none
    | none => none
  | _ => none
def ev_q_ias (nr pc : Nat) (L st : List Nat) (h : ev_H) (nc ns : Nat) : Option ev_G := match st with
  | v :: j :: r :: st' => bif ev_isI v then (match ev_wr 1000 nr h j r v with
    | some h' => some ((pc + 1, L, st'), h', nc, ns)
    | none => none) else none
  | _ => none
def ev_q_iv (callf : Nat → List Nat → ev_H → Option ev_A) (a b t pc : Nat) (L st : List Nat) (h : ev_H) (nc ns : Nat) : Option ev_G := match st.drop (b - 1) with
  | r :: _ => (match ev_o h r with
    | some x => bif Nat.beq x.1 t && Nat.blt 0 b then ev_inv callf a b pc L st h nc ns else none
    | none => none)
  | [] => none
theorem ev_ziinc_ok (n a pc : Nat) (L st : List Nat) : ev_ziinc n a pc L st = ev_q_iinc n a pc L st := by
  unfold ev_ziinc ev_q_iinc
  simp only [ev_gt_ok, ev_zset1_ok]
  cases h : L[n]? with
  | none => rfl
  | some x =>
    have := (List.getElem?_eq_some_iff.mp h).1
    simp only [Nat.blt_eq.mpr this, Bool.and_true]
theorem ev_zgf_ok (a b pc : Nat) (L st : List Nat) (h : ev_H) (nc ns : Nat) : ev_zgf a b pc L st h nc ns = ev_q_gf a b pc L st h nc ns := by
  unfold ev_zgf ev_q_gf
  simp only [ev_zo_ok]
  cases st with
  | nil => rfl
  | cons r st1 => dsimp only; cases ev_o h r <;> rfl
theorem ev_zpf_ok (nr a b t pc : Nat) (L st : List Nat) (h : ev_H) (nc ns : Nat) : ev_zpf nr a b t pc L st h nc ns = ev_q_pf nr a b t pc L st h nc ns := by
  unfold ev_zpf ev_q_pf
  simp only [ev_zo_ok, ev_put_ok, ev_fo_ok]
  cases st with
  | nil => rfl
  | cons v st1 => cases st1 with
    | nil => rfl
    | cons r st2 => dsimp only; cases ev_o h r <;> rfl
theorem ev_zias_ok (nr pc : Nat) (L st : List Nat) (h : ev_H) (nc ns : Nat) : ev_zias nr pc L st h nc ns = ev_q_ias nr pc L st h nc ns := by unfold ev_zias ev_q_ias; simp only [ev_zwr_ok]; rfl
noncomputable def ev_x0 (nr : Nat) (dfl : Nat → Nat) (callf : Nat → List Nat → ev_H → Option ev_A) (k n a b t : Nat) (i : Instr) (pc : Nat) (L st : List Nat) (h : ev_H) (nc ns : Nat) : Option ev_G := bif Nat.blt k 2 then ev_w1 (ev_zldI 1 n pc L st) h nc ns else ev_w1 (ev_zldL 2 n pc L st) h nc ns
noncomputable def ev_x1 (nr : Nat) (dfl : Nat → Nat) (callf : Nat → List Nat → ev_H → Option ev_A) (k n a b t : Nat) (i : Instr) (pc : Nat) (L st : List Nat) (h : ev_H) (nc ns : Nat) : Option ev_G := bif Nat.blt k 1 then ev_w1 (ev_zldI 2 n pc L st) h nc ns else ev_x0 nr dfl callf k n a b t i pc L st h nc ns
noncomputable def ev_x2 (nr : Nat) (dfl : Nat → Nat) (callf : Nat → List Nat → ev_H → Option ev_A) (k n a b t : Nat) (i : Instr) (pc : Nat) (L st : List Nat) (h : ev_H) (nc ns : Nat) : Option ev_G := bif Nat.blt k 4 then ev_w1 (ev_zldL 1 n pc L st) h nc ns else ev_w1 (ev_zldR 2 n pc L st) h nc ns
noncomputable def ev_x3 (nr : Nat) (dfl : Nat → Nat) (callf : Nat → List Nat → ev_H → Option ev_A) (k n a b t : Nat) (i : Instr) (pc : Nat) (L st : List Nat) (h : ev_H) (nc ns : Nat) : Option ev_G := bif Nat.blt k 6 then ev_w1 (ev_zldR 1 n pc L st) h nc ns else ev_w1 (ev_zstI 2 n pc L st) h nc ns
noncomputable def ev_x4 (nr : Nat) (dfl : Nat → Nat) (callf : Nat → List Nat → ev_H → Option ev_A) (k n a b t : Nat) (i : Instr) (pc : Nat) (L st : List Nat) (h : ev_H) (nc ns : Nat) : Option ev_G := bif Nat.blt k 5 then ev_x2 nr dfl callf k n a b t i pc L st h nc ns else ev_x3 nr dfl callf k n a b t i pc L st h nc ns
noncomputable def ev_x5 (nr : Nat) (dfl : Nat → Nat) (callf : Nat → List Nat → ev_H → Option ev_A) (k n a b t : Nat) (i : Instr) (pc : Nat) (L st : List Nat) (h : ev_H) (nc ns : Nat) : Option ev_G := bif Nat.blt k 3 then ev_x1 nr dfl callf k n a b t i pc L st h nc ns else ev_x4 nr dfl callf k n a b t i pc L st h nc ns
noncomputable def ev_x6 (nr : Nat) (dfl : Nat → Nat) (callf : Nat → List Nat → ev_H → Option ev_A) (k n a b t : Nat) (i : Instr) (pc : Nat) (L st : List Nat) (h : ev_H) (nc ns : Nat) : Option ev_G := bif Nat.blt k 9 then ev_w1 (ev_zstL 2 n pc L st) h nc ns else ev_w1 (ev_zstL 1 n pc L st) h nc ns
noncomputable def ev_x7 (nr : Nat) (dfl : Nat → Nat) (callf : Nat → List Nat → ev_H → Option ev_A) (k n a b t : Nat) (i : Instr) (pc : Nat) (L st : List Nat) (h : ev_H) (nc ns : Nat) : Option ev_G := bif Nat.blt k 8 then ev_w1 (ev_zstI 1 n pc L st) h nc ns else ev_x6 nr dfl callf k n a b t i pc L st h nc ns
noncomputable def ev_x8 (nr : Nat) (dfl : Nat → Nat) (callf : Nat → List Nat → ev_H → Option ev_A) (k n a b t : Nat) (i : Instr) (pc : Nat) (L st : List Nat) (h : ev_H) (nc ns : Nat) : Option ev_G := bif Nat.blt k 11 then ev_w1 (ev_zstR 2 n pc L st) h nc ns else ev_w1 (ev_zstR 1 n pc L st) h nc ns
noncomputable def ev_x9 (nr : Nat) (dfl : Nat → Nat) (callf : Nat → List Nat → ev_H → Option ev_A) (k n a b t : Nat) (i : Instr) (pc : Nat) (L st : List Nat) (h : ev_H) (nc ns : Nat) : Option ev_G := bif Nat.blt k 13 then some ((pc + 1, L, a :: st), h, nc, ns) else some ((pc + 2, L, a :: st), h, nc, ns)
noncomputable def ev_x10 (nr : Nat) (dfl : Nat → Nat) (callf : Nat → List Nat → ev_H → Option ev_A) (k n a b t : Nat) (i : Instr) (pc : Nat) (L st : List Nat) (h : ev_H) (nc ns : Nat) : Option ev_G := bif Nat.blt k 12 then ev_x8 nr dfl callf k n a b t i pc L st h nc ns else ev_x9 nr dfl callf k n a b t i pc L st h nc ns
noncomputable def ev_x11 (nr : Nat) (dfl : Nat → Nat) (callf : Nat → List Nat → ev_H → Option ev_A) (k n a b t : Nat) (i : Instr) (pc : Nat) (L st : List Nat) (h : ev_H) (nc ns : Nat) : Option ev_G := bif Nat.blt k 10 then ev_x7 nr dfl callf k n a b t i pc L st h nc ns else ev_x10 nr dfl callf k n a b t i pc L st h nc ns
noncomputable def ev_x12 (nr : Nat) (dfl : Nat → Nat) (callf : Nat → List Nat → ev_H → Option ev_A) (k n a b t : Nat) (i : Instr) (pc : Nat) (L st : List Nat) (h : ev_H) (nc ns : Nat) : Option ev_G := bif Nat.blt k 7 then ev_x5 nr dfl callf k n a b t i pc L st h nc ns else ev_x11 nr dfl callf k n a b t i pc L st h nc ns
noncomputable def ev_x13 (nr : Nat) (dfl : Nat → Nat) (callf : Nat → List Nat → ev_H → Option ev_A) (k n a b t : Nat) (i : Instr) (pc : Nat) (L st : List Nat) (h : ev_H) (nc ns : Nat) : Option ev_G := bif Nat.blt k 16 then some ((pc + 1, L, ev_oLc n :: st), h, nc, ns) else ev_w1 (ev_binI pc L st ev_oAdd) h nc ns
noncomputable def ev_x14 (nr : Nat) (dfl : Nat → Nat) (callf : Nat → List Nat → ev_H → Option ev_A) (k n a b t : Nat) (i : Instr) (pc : Nat) (L st : List Nat) (h : ev_H) (nc ns : Nat) : Option ev_G := bif Nat.blt k 15 then some ((pc + 3, L, a :: st), h, nc, ns) else ev_x13 nr dfl callf k n a b t i pc L st h nc ns
noncomputable def ev_x15 (nr : Nat) (dfl : Nat → Nat) (callf : Nat → List Nat → ev_H → Option ev_A) (k n a b t : Nat) (i : Instr) (pc : Nat) (L st : List Nat) (h : ev_H) (nc ns : Nat) : Option ev_G := bif Nat.blt k 18 then ev_w1 (ev_binI pc L st ev_oSub) h nc ns else ev_w1 (ev_binI pc L st ev_oMul) h nc ns
noncomputable def ev_x16 (nr : Nat) (dfl : Nat → Nat) (callf : Nat → List Nat → ev_H → Option ev_A) (k n a b t : Nat) (i : Instr) (pc : Nat) (L st : List Nat) (h : ev_H) (nc ns : Nat) : Option ev_G := bif Nat.blt k 20 then ev_w1 (ev_binI pc L st ev_oAnd) h nc ns else ev_w1 (ev_binI pc L st ev_oOr) h nc ns
noncomputable def ev_x17 (nr : Nat) (dfl : Nat → Nat) (callf : Nat → List Nat → ev_H → Option ev_A) (k n a b t : Nat) (i : Instr) (pc : Nat) (L st : List Nat) (h : ev_H) (nc ns : Nat) : Option ev_G := bif Nat.blt k 19 then ev_x15 nr dfl callf k n a b t i pc L st h nc ns else ev_x16 nr dfl callf k n a b t i pc L st h nc ns
noncomputable def ev_x18 (nr : Nat) (dfl : Nat → Nat) (callf : Nat → List Nat → ev_H → Option ev_A) (k n a b t : Nat) (i : Instr) (pc : Nat) (L st : List Nat) (h : ev_H) (nc ns : Nat) : Option ev_G := bif Nat.blt k 17 then ev_x14 nr dfl callf k n a b t i pc L st h nc ns else ev_x17 nr dfl callf k n a b t i pc L st h nc ns
noncomputable def ev_x19 (nr : Nat) (dfl : Nat → Nat) (callf : Nat → List Nat → ev_H → Option ev_A) (k n a b t : Nat) (i : Instr) (pc : Nat) (L st : List Nat) (h : ev_H) (nc ns : Nat) : Option ev_G := bif Nat.blt k 22 then ev_w1 (ev_binI pc L st ev_oXor) h nc ns else ev_w1 (ev_binI pc L st ev_oUsh) h nc ns
noncomputable def ev_x20 (nr : Nat) (dfl : Nat → Nat) (callf : Nat → List Nat → ev_H → Option ev_A) (k n a b t : Nat) (i : Instr) (pc : Nat) (L st : List Nat) (h : ev_H) (nc ns : Nat) : Option ev_G := bif Nat.blt k 24 then ev_w1 (ev_unI pc L st ev_oNeg) h nc ns else ev_w1 (ev_unI pc L st ev_b8) h nc ns
noncomputable def ev_x21 (nr : Nat) (dfl : Nat → Nat) (callf : Nat → List Nat → ev_H → Option ev_A) (k n a b t : Nat) (i : Instr) (pc : Nat) (L st : List Nat) (h : ev_H) (nc ns : Nat) : Option ev_G := bif Nat.blt k 23 then ev_x19 nr dfl callf k n a b t i pc L st h nc ns else ev_x20 nr dfl callf k n a b t i pc L st h nc ns
noncomputable def ev_x22 (nr : Nat) (dfl : Nat → Nat) (callf : Nat → List Nat → ev_H → Option ev_A) (k n a b t : Nat) (i : Instr) (pc : Nat) (L st : List Nat) (h : ev_H) (nc ns : Nat) : Option ev_G := bif Nat.blt k 26 then ev_w1 (ev_unI pc L st ev_oI2c) h nc ns else ev_w1 (ev_unI pc L st ev_oI2l) h nc ns
noncomputable def ev_x23 (nr : Nat) (dfl : Nat → Nat) (callf : Nat → List Nat → ev_H → Option ev_A) (k n a b t : Nat) (i : Instr) (pc : Nat) (L st : List Nat) (h : ev_H) (nc ns : Nat) : Option ev_G := bif Nat.blt k 28 then ev_w1 (ev_binL pc L st ev_oAddL) h nc ns else ev_w1 (ev_binL pc L st ev_oSubL) h nc ns
noncomputable def ev_x24 (nr : Nat) (dfl : Nat → Nat) (callf : Nat → List Nat → ev_H → Option ev_A) (k n a b t : Nat) (i : Instr) (pc : Nat) (L st : List Nat) (h : ev_H) (nc ns : Nat) : Option ev_G := bif Nat.blt k 27 then ev_x22 nr dfl callf k n a b t i pc L st h nc ns else ev_x23 nr dfl callf k n a b t i pc L st h nc ns
noncomputable def ev_x25 (nr : Nat) (dfl : Nat → Nat) (callf : Nat → List Nat → ev_H → Option ev_A) (k n a b t : Nat) (i : Instr) (pc : Nat) (L st : List Nat) (h : ev_H) (nc ns : Nat) : Option ev_G := bif Nat.blt k 25 then ev_x21 nr dfl callf k n a b t i pc L st h nc ns else ev_x24 nr dfl callf k n a b t i pc L st h nc ns
noncomputable def ev_x26 (nr : Nat) (dfl : Nat → Nat) (callf : Nat → List Nat → ev_H → Option ev_A) (k n a b t : Nat) (i : Instr) (pc : Nat) (L st : List Nat) (h : ev_H) (nc ns : Nat) : Option ev_G := bif Nat.blt k 21 then ev_x18 nr dfl callf k n a b t i pc L st h nc ns else ev_x25 nr dfl callf k n a b t i pc L st h nc ns
noncomputable def ev_x27 (nr : Nat) (dfl : Nat → Nat) (callf : Nat → List Nat → ev_H → Option ev_A) (k n a b t : Nat) (i : Instr) (pc : Nat) (L st : List Nat) (h : ev_H) (nc ns : Nat) : Option ev_G := bif Nat.blt k 14 then ev_x12 nr dfl callf k n a b t i pc L st h nc ns else ev_x26 nr dfl callf k n a b t i pc L st h nc ns
noncomputable def ev_x28 (nr : Nat) (dfl : Nat → Nat) (callf : Nat → List Nat → ev_H → Option ev_A) (k n a b t : Nat) (i : Instr) (pc : Nat) (L st : List Nat) (h : ev_H) (nc ns : Nat) : Option ev_G := bif Nat.blt k 31 then ev_w1 (ev_binL pc L st ev_oAndL) h nc ns else ev_w1 (ev_binL pc L st ev_oXorL) h nc ns
noncomputable def ev_x29 (nr : Nat) (dfl : Nat → Nat) (callf : Nat → List Nat → ev_H → Option ev_A) (k n a b t : Nat) (i : Instr) (pc : Nat) (L st : List Nat) (h : ev_H) (nc ns : Nat) : Option ev_G := bif Nat.blt k 30 then ev_w1 (ev_binL pc L st ev_oMulL) h nc ns else ev_x28 nr dfl callf k n a b t i pc L st h nc ns
noncomputable def ev_x30 (nr : Nat) (dfl : Nat → Nat) (callf : Nat → List Nat → ev_H → Option ev_A) (k n a b t : Nat) (i : Instr) (pc : Nat) (L st : List Nat) (h : ev_H) (nc ns : Nat) : Option ev_G := bif Nat.blt k 33 then ev_w1 (ev_binL pc L st ev_oCmpL) h nc ns else ev_w1 (ev_q_l2i pc L st) h nc ns
noncomputable def ev_x31 (nr : Nat) (dfl : Nat → Nat) (callf : Nat → List Nat → ev_H → Option ev_A) (k n a b t : Nat) (i : Instr) (pc : Nat) (L st : List Nat) (h : ev_H) (nc ns : Nat) : Option ev_G := bif Nat.blt k 35 then ev_w1 (ev_q_lushr pc L st) h nc ns else ev_w1 (ev_q_dup pc L st) h nc ns
noncomputable def ev_x32 (nr : Nat) (dfl : Nat → Nat) (callf : Nat → List Nat → ev_H → Option ev_A) (k n a b t : Nat) (i : Instr) (pc : Nat) (L st : List Nat) (h : ev_H) (nc ns : Nat) : Option ev_G := bif Nat.blt k 34 then ev_x30 nr dfl callf k n a b t i pc L st h nc ns else ev_x31 nr dfl callf k n a b t i pc L st h nc ns
noncomputable def ev_x33 (nr : Nat) (dfl : Nat → Nat) (callf : Nat → List Nat → ev_H → Option ev_A) (k n a b t : Nat) (i : Instr) (pc : Nat) (L st : List Nat) (h : ev_H) (nc ns : Nat) : Option ev_G := bif Nat.blt k 32 then ev_x29 nr dfl callf k n a b t i pc L st h nc ns else ev_x32 nr dfl callf k n a b t i pc L st h nc ns
noncomputable def ev_x34 (nr : Nat) (dfl : Nat → Nat) (callf : Nat → List Nat → ev_H → Option ev_A) (k n a b t : Nat) (i : Instr) (pc : Nat) (L st : List Nat) (h : ev_H) (nc ns : Nat) : Option ev_G := bif Nat.blt k 37 then ev_w1 (ev_ziinc n a pc L st) h nc ns else some ((a, L, st), h, nc, ns)
noncomputable def ev_x35 (nr : Nat) (dfl : Nat → Nat) (callf : Nat → List Nat → ev_H → Option ev_A) (k n a b t : Nat) (i : Instr) (pc : Nat) (L st : List Nat) (h : ev_H) (nc ns : Nat) : Option ev_G := bif Nat.blt k 39 then ev_w1 (ev_q_if .eq a pc L st) h nc ns else ev_w1 (ev_q_if .ne a pc L st) h nc ns
noncomputable def ev_x36 (nr : Nat) (dfl : Nat → Nat) (callf : Nat → List Nat → ev_H → Option ev_A) (k n a b t : Nat) (i : Instr) (pc : Nat) (L st : List Nat) (h : ev_H) (nc ns : Nat) : Option ev_G := bif Nat.blt k 38 then ev_x34 nr dfl callf k n a b t i pc L st h nc ns else ev_x35 nr dfl callf k n a b t i pc L st h nc ns
noncomputable def ev_x37 (nr : Nat) (dfl : Nat → Nat) (callf : Nat → List Nat → ev_H → Option ev_A) (k n a b t : Nat) (i : Instr) (pc : Nat) (L st : List Nat) (h : ev_H) (nc ns : Nat) : Option ev_G := bif Nat.blt k 41 then ev_w1 (ev_q_if .lt a pc L st) h nc ns else ev_w1 (ev_q_if .ge a pc L st) h nc ns
noncomputable def ev_x38 (nr : Nat) (dfl : Nat → Nat) (callf : Nat → List Nat → ev_H → Option ev_A) (k n a b t : Nat) (i : Instr) (pc : Nat) (L st : List Nat) (h : ev_H) (nc ns : Nat) : Option ev_G := bif Nat.blt k 43 then ev_w1 (ev_q_if .gt a pc L st) h nc ns else ev_w1 (ev_q_if .le a pc L st) h nc ns
noncomputable def ev_x39 (nr : Nat) (dfl : Nat → Nat) (callf : Nat → List Nat → ev_H → Option ev_A) (k n a b t : Nat) (i : Instr) (pc : Nat) (L st : List Nat) (h : ev_H) (nc ns : Nat) : Option ev_G := bif Nat.blt k 42 then ev_x37 nr dfl callf k n a b t i pc L st h nc ns else ev_x38 nr dfl callf k n a b t i pc L st h nc ns
noncomputable def ev_x40 (nr : Nat) (dfl : Nat → Nat) (callf : Nat → List Nat → ev_H → Option ev_A) (k n a b t : Nat) (i : Instr) (pc : Nat) (L st : List Nat) (h : ev_H) (nc ns : Nat) : Option ev_G := bif Nat.blt k 40 then ev_x36 nr dfl callf k n a b t i pc L st h nc ns else ev_x39 nr dfl callf k n a b t i pc L st h nc ns
noncomputable def ev_x41 (nr : Nat) (dfl : Nat → Nat) (callf : Nat → List Nat → ev_H → Option ev_A) (k n a b t : Nat) (i : Instr) (pc : Nat) (L st : List Nat) (h : ev_H) (nc ns : Nat) : Option ev_G := bif Nat.blt k 36 then ev_x33 nr dfl callf k n a b t i pc L st h nc ns else ev_x40 nr dfl callf k n a b t i pc L st h nc ns
noncomputable def ev_x42 (nr : Nat) (dfl : Nat → Nat) (callf : Nat → List Nat → ev_H → Option ev_A) (k n a b t : Nat) (i : Instr) (pc : Nat) (L st : List Nat) (h : ev_H) (nc ns : Nat) : Option ev_G := bif Nat.blt k 46 then ev_w1 (ev_q_ic .ne a pc L st) h nc ns else ev_w1 (ev_q_ic .lt a pc L st) h nc ns
noncomputable def ev_x43 (nr : Nat) (dfl : Nat → Nat) (callf : Nat → List Nat → ev_H → Option ev_A) (k n a b t : Nat) (i : Instr) (pc : Nat) (L st : List Nat) (h : ev_H) (nc ns : Nat) : Option ev_G := bif Nat.blt k 45 then ev_w1 (ev_q_ic .eq a pc L st) h nc ns else ev_x42 nr dfl callf k n a b t i pc L st h nc ns
noncomputable def ev_x44 (nr : Nat) (dfl : Nat → Nat) (callf : Nat → List Nat → ev_H → Option ev_A) (k n a b t : Nat) (i : Instr) (pc : Nat) (L st : List Nat) (h : ev_H) (nc ns : Nat) : Option ev_G := bif Nat.blt k 48 then ev_w1 (ev_q_ic .ge a pc L st) h nc ns else ev_w1 (ev_q_ic .gt a pc L st) h nc ns
noncomputable def ev_x45 (nr : Nat) (dfl : Nat → Nat) (callf : Nat → List Nat → ev_H → Option ev_A) (k n a b t : Nat) (i : Instr) (pc : Nat) (L st : List Nat) (h : ev_H) (nc ns : Nat) : Option ev_G := bif Nat.blt k 50 then ev_w1 (ev_q_ic .le a pc L st) h nc ns else ev_zgf a b pc L st h nc ns
noncomputable def ev_x46 (nr : Nat) (dfl : Nat → Nat) (callf : Nat → List Nat → ev_H → Option ev_A) (k n a b t : Nat) (i : Instr) (pc : Nat) (L st : List Nat) (h : ev_H) (nc ns : Nat) : Option ev_G := bif Nat.blt k 49 then ev_x44 nr dfl callf k n a b t i pc L st h nc ns else ev_x45 nr dfl callf k n a b t i pc L st h nc ns
noncomputable def ev_x47 (nr : Nat) (dfl : Nat → Nat) (callf : Nat → List Nat → ev_H → Option ev_A) (k n a b t : Nat) (i : Instr) (pc : Nat) (L st : List Nat) (h : ev_H) (nc ns : Nat) : Option ev_G := bif Nat.blt k 47 then ev_x43 nr dfl callf k n a b t i pc L st h nc ns else ev_x46 nr dfl callf k n a b t i pc L st h nc ns
noncomputable def ev_x48 (nr : Nat) (dfl : Nat → Nat) (callf : Nat → List Nat → ev_H → Option ev_A) (k n a b t : Nat) (i : Instr) (pc : Nat) (L st : List Nat) (h : ev_H) (nc ns : Nat) : Option ev_G := bif Nat.blt k 52 then ev_zpf nr a b t pc L st h nc ns else ev_zrdI 1000 pc L st h nc ns
noncomputable def ev_x49 (nr : Nat) (dfl : Nat → Nat) (callf : Nat → List Nat → ev_H → Option ev_A) (k n a b t : Nat) (i : Instr) (pc : Nat) (L st : List Nat) (h : ev_H) (nc ns : Nat) : Option ev_G := bif Nat.blt k 54 then ev_zias nr pc L st h nc ns else ev_zbal pc L st h nc ns
noncomputable def ev_x50 (nr : Nat) (dfl : Nat → Nat) (callf : Nat → List Nat → ev_H → Option ev_A) (k n a b t : Nat) (i : Instr) (pc : Nat) (L st : List Nat) (h : ev_H) (nc ns : Nat) : Option ev_G := bif Nat.blt k 53 then ev_x48 nr dfl callf k n a b t i pc L st h nc ns else ev_x49 nr dfl callf k n a b t i pc L st h nc ns
noncomputable def ev_x51 (nr : Nat) (dfl : Nat → Nat) (callf : Nat → List Nat → ev_H → Option ev_A) (k n a b t : Nat) (i : Instr) (pc : Nat) (L st : List Nat) (h : ev_H) (nc ns : Nat) : Option ev_G := bif Nat.blt k 56 then ev_zbas nr pc L st h nc ns else ev_ziv callf a b t pc L st h nc ns
noncomputable def ev_x52 (nr : Nat) (dfl : Nat → Nat) (callf : Nat → List Nat → ev_H → Option ev_A) (k n a b t : Nat) (i : Instr) (pc : Nat) (L st : List Nat) (h : ev_H) (nc ns : Nat) : Option ev_G := bif Nat.blt k 58 then ev_zinv callf a b pc L st h nc ns else ev_step nr dfl callf i a b t pc L st h nc ns
noncomputable def ev_x53 (nr : Nat) (dfl : Nat → Nat) (callf : Nat → List Nat → ev_H → Option ev_A) (k n a b t : Nat) (i : Instr) (pc : Nat) (L st : List Nat) (h : ev_H) (nc ns : Nat) : Option ev_G := bif Nat.blt k 57 then ev_x51 nr dfl callf k n a b t i pc L st h nc ns else ev_x52 nr dfl callf k n a b t i pc L st h nc ns
noncomputable def ev_x54 (nr : Nat) (dfl : Nat → Nat) (callf : Nat → List Nat → ev_H → Option ev_A) (k n a b t : Nat) (i : Instr) (pc : Nat) (L st : List Nat) (h : ev_H) (nc ns : Nat) : Option ev_G := bif Nat.blt k 55 then ev_x50 nr dfl callf k n a b t i pc L st h nc ns else ev_x53 nr dfl callf k n a b t i pc L st h nc ns
noncomputable def ev_x55 (nr : Nat) (dfl : Nat → Nat) (callf : Nat → List Nat → ev_H → Option ev_A) (k n a b t : Nat) (i : Instr) (pc : Nat) (L st : List Nat) (h : ev_H) (nc ns : Nat) : Option ev_G := bif Nat.blt k 51 then ev_x47 nr dfl callf k n a b t i pc L st h nc ns else ev_x54 nr dfl callf k n a b t i pc L st h nc ns
noncomputable def ev_x56 (nr : Nat) (dfl : Nat → Nat) (callf : Nat → List Nat → ev_H → Option ev_A) (k n a b t : Nat) (i : Instr) (pc : Nat) (L st : List Nat) (h : ev_H) (nc ns : Nat) : Option ev_G := bif Nat.blt k 44 then ev_x41 nr dfl callf k n a b t i pc L st h nc ns else ev_x55 nr dfl callf k n a b t i pc L st h nc ns
noncomputable def ev_x57 (nr : Nat) (dfl : Nat → Nat) (callf : Nat → List Nat → ev_H → Option ev_A) (k n a b t : Nat) (i : Instr) (pc : Nat) (L st : List Nat) (h : ev_H) (nc ns : Nat) : Option ev_G := bif Nat.blt k 29 then ev_x27 nr dfl callf k n a b t i pc L st h nc ns else ev_x56 nr dfl callf k n a b t i pc L st h nc ns
noncomputable def ev_ex (nr : Nat) (dfl : Nat → Nat) (callf : Nat → List Nat → ev_H → Option ev_A) (k n a b t : Nat) (i : Instr) (pc : Nat) (L st : List Nat) (h : ev_H) (nc ns : Nat) : Option ev_G := ev_x57 nr dfl callf k n a b t i pc L st h nc ns
/-- does the number stand for the instruction, n for its own number? -/
def ev_ckx (i : Instr) (k n a pc : Nat) : Bool := match i with
  | .iload q => Nat.beq k 0 && Nat.beq q n
  | .iload_n q => Nat.beq k 1 && Nat.beq q.val n
  | .lload q => Nat.beq k 2 && Nat.beq q n
  | .lload_n q => Nat.beq k 3 && Nat.beq q.val n
  | .aload q => Nat.beq k 4 && Nat.beq q n
  | .aload_n q => Nat.beq k 5 && Nat.beq q.val n
  | .istore q => Nat.beq k 6 && Nat.beq q n
  | .istore_n q => Nat.beq k 7 && Nat.beq q.val n
  | .lstore q => Nat.beq k 8 && Nat.beq q n
  | .lstore_n q => Nat.beq k 9 && Nat.beq q.val n
  | .astore q => Nat.beq k 10 && Nat.beq q n
  | .astore_n q => Nat.beq k 11 && Nat.beq q.val n
  | .iconst q => Nat.beq k 12 && decide (Int32.ofInt q = nI a) && ev_isI a
  | .bipush q => Nat.beq k 13 && decide ((Int8.ofInt q).toInt32 = nI a) && ev_isI a
  | .sipush q => Nat.beq k 14 && decide ((Int16.ofInt q).toInt32 = nI a) && ev_isI a
  | .lconst q => Nat.beq k 15 && Nat.beq q.val n
  | .iadd => Nat.beq k 16
  | .isub => Nat.beq k 17
  | .imul => Nat.beq k 18
  | .iand => Nat.beq k 19
  | .ior => Nat.beq k 20
  | .ixor => Nat.beq k 21
  | .iushr => Nat.beq k 22
  | .ineg => Nat.beq k 23
  | .i2b => Nat.beq k 24
  | .i2c => Nat.beq k 25
  | .i2l => Nat.beq k 26
  | .ladd => Nat.beq k 27
  | .lsub => Nat.beq k 28
  | .lmul => Nat.beq k 29
  | .land => Nat.beq k 30
  | .lxor => Nat.beq k 31
  | .lcmp => Nat.beq k 32
  | .l2i => Nat.beq k 33
  | .lushr => Nat.beq k 34
  | .dup => Nat.beq k 35
  | .iinc q z => Nat.beq k 36 && Nat.beq q n && decide (nI a = Int32.ofInt z)
  | .goto q => Nat.beq k 37 && decide ((pc : Int) + q = (a : Int))
  | .ifCond .eq q => Nat.beq k 38 && decide ((pc : Int) + q = (a : Int))
  | .ifCond .ne q => Nat.beq k 39 && decide ((pc : Int) + q = (a : Int))
  | .ifCond .lt q => Nat.beq k 40 && decide ((pc : Int) + q = (a : Int))
  | .ifCond .ge q => Nat.beq k 41 && decide ((pc : Int) + q = (a : Int))
  | .ifCond .gt q => Nat.beq k 42 && decide ((pc : Int) + q = (a : Int))
  | .ifCond .le q => Nat.beq k 43 && decide ((pc : Int) + q = (a : Int))
  | .if_icmp .eq q => Nat.beq k 44 && decide ((pc : Int) + q = (a : Int))
  | .if_icmp .ne q => Nat.beq k 45 && decide ((pc : Int) + q = (a : Int))
  | .if_icmp .lt q => Nat.beq k 46 && decide ((pc : Int) + q = (a : Int))
  | .if_icmp .ge q => Nat.beq k 47 && decide ((pc : Int) + q = (a : Int))
  | .if_icmp .gt q => Nat.beq k 48 && decide ((pc : Int) + q = (a : Int))
  | .if_icmp .le q => Nat.beq k 49 && decide ((pc : Int) + q = (a : Int))
  | .getfield q => Nat.beq k 50
  | .putfield q => Nat.beq k 51
  | .iaload => Nat.beq k 52
  | .iastore => Nat.beq k 53
  | .baload => Nat.beq k 54
  | .bastore => Nat.beq k 55
  | .invokevirtual q => Nat.beq k 56
  | .invokestatic q => Nat.beq k 57
  | .return_ => Nat.beq k 1000
  | .ireturn => Nat.beq k 1000
  | .lreturn => Nat.beq k 1000
  | .areturn => Nat.beq k 1000
  | _ => Nat.beq k 58
def ev_isRet (i : Instr) : Bool := match i with
  | .return_ => true
  | .ireturn => true
  | .lreturn => true
  | .areturn => true
  | _ => false
theorem ev_ex_ok {nr : Nat} {dfl : Nat → Nat} {callf : Nat → List Nat → ev_H → Option ev_A} {k n a b t pc nc ns : Nat} {i : Instr} {L st : List Nat} {h : ev_H} {g : ev_G} (hret : ev_isRet i = false) (hc : ev_ckx i k n a pc = true) (hx : ev_ex nr dfl callf k n a b t i pc L st h nc ns = some g) : ev_step nr dfl callf i a b t pc L st h nc ns = some g := by
  cases i with
  | iload q =>
    simp only [ev_ckx, Bool.and_eq_true] at hc
    obtain ⟨h0, h1⟩ := hc
    obtain rfl := Nat.eq_of_beq_eq_true h0
    have e1 : ∀ i0 : Instr, ev_ex nr dfl callf 0 n a b t i0 pc L st h nc ns = ev_w1 (ev_zldI 2 n pc L st) h nc ns := fun _ => rfl
    rw [e1] at hx
    rw [ev_zldI_ok] at hx
    obtain rfl := Nat.eq_of_beq_eq_true h1
    simp only [ev_step, ev_stH, ev_stA]
    exact hx
  | iload_n q =>
    simp only [ev_ckx, Bool.and_eq_true] at hc
    obtain ⟨h0, h1⟩ := hc
    obtain rfl := Nat.eq_of_beq_eq_true h0
    have e1 : ∀ i0 : Instr, ev_ex nr dfl callf 1 n a b t i0 pc L st h nc ns = ev_w1 (ev_zldI 1 n pc L st) h nc ns := fun _ => rfl
    rw [e1] at hx
    rw [ev_zldI_ok] at hx
    obtain rfl := Nat.eq_of_beq_eq_true h1
    simp only [ev_step, ev_stH, ev_stA]
    exact hx
  | lload q =>
    simp only [ev_ckx, Bool.and_eq_true] at hc
    obtain ⟨h0, h1⟩ := hc
    obtain rfl := Nat.eq_of_beq_eq_true h0
    have e1 : ∀ i0 : Instr, ev_ex nr dfl callf 2 n a b t i0 pc L st h nc ns = ev_w1 (ev_zldL 2 n pc L st) h nc ns := fun _ => rfl
    rw [e1] at hx
    rw [ev_zldL_ok] at hx
    obtain rfl := Nat.eq_of_beq_eq_true h1
    simp only [ev_step, ev_stH, ev_stA]
    exact hx
  | lload_n q =>
    simp only [ev_ckx, Bool.and_eq_true] at hc
    obtain ⟨h0, h1⟩ := hc
    obtain rfl := Nat.eq_of_beq_eq_true h0
    have e1 : ∀ i0 : Instr, ev_ex nr dfl callf 3 n a b t i0 pc L st h nc ns = ev_w1 (ev_zldL 1 n pc L st) h nc ns := fun _ => rfl
    rw [e1] at hx
    rw [ev_zldL_ok] at hx
    obtain rfl := Nat.eq_of_beq_eq_true h1
    simp only [ev_step, ev_stH, ev_stA]
    exact hx
  | aload q =>
    simp only [ev_ckx, Bool.and_eq_true] at hc
    obtain ⟨h0, h1⟩ := hc
    obtain rfl := Nat.eq_of_beq_eq_true h0
    have e1 : ∀ i0 : Instr, ev_ex nr dfl callf 4 n a b t i0 pc L st h nc ns = ev_w1 (ev_zldR 2 n pc L st) h nc ns := fun _ => rfl
    rw [e1] at hx
    rw [ev_zldR_ok] at hx
    obtain rfl := Nat.eq_of_beq_eq_true h1
    simp only [ev_step, ev_stH, ev_stA]
    exact hx
  | aload_n q =>
    simp only [ev_ckx, Bool.and_eq_true] at hc
    obtain ⟨h0, h1⟩ := hc
    obtain rfl := Nat.eq_of_beq_eq_true h0
    have e1 : ∀ i0 : Instr, ev_ex nr dfl callf 5 n a b t i0 pc L st h nc ns = ev_w1 (ev_zldR 1 n pc L st) h nc ns := fun _ => rfl
    rw [e1] at hx
    rw [ev_zldR_ok] at hx
    obtain rfl := Nat.eq_of_beq_eq_true h1
    simp only [ev_step, ev_stH, ev_stA]
    exact hx
  | istore q =>
    simp only [ev_ckx, Bool.and_eq_true] at hc
    obtain ⟨h0, h1⟩ := hc
    obtain rfl := Nat.eq_of_beq_eq_true h0
    have e1 : ∀ i0 : Instr, ev_ex nr dfl callf 6 n a b t i0 pc L st h nc ns = ev_w1 (ev_zstI 2 n pc L st) h nc ns := fun _ => rfl
    rw [e1] at hx
    rw [ev_zstI_ok] at hx
    obtain rfl := Nat.eq_of_beq_eq_true h1
    simp only [ev_step, ev_stH, ev_stA]
    exact hx
  | istore_n q =>
    simp only [ev_ckx, Bool.and_eq_true] at hc
    obtain ⟨h0, h1⟩ := hc
    obtain rfl := Nat.eq_of_beq_eq_true h0
    have e1 : ∀ i0 : Instr, ev_ex nr dfl callf 7 n a b t i0 pc L st h nc ns = ev_w1 (ev_zstI 1 n pc L st) h nc ns := fun _ => rfl
    rw [e1] at hx
    rw [ev_zstI_ok] at hx
    obtain rfl := Nat.eq_of_beq_eq_true h1
    simp only [ev_step, ev_stH, ev_stA]
    exact hx
  | lstore q =>
    simp only [ev_ckx, Bool.and_eq_true] at hc
    obtain ⟨h0, h1⟩ := hc
    obtain rfl := Nat.eq_of_beq_eq_true h0
    have e1 : ∀ i0 : Instr, ev_ex nr dfl callf 8 n a b t i0 pc L st h nc ns = ev_w1 (ev_zstL 2 n pc L st) h nc ns := fun _ => rfl
    rw [e1] at hx
    rw [ev_zstL_ok] at hx
    obtain rfl := Nat.eq_of_beq_eq_true h1
    simp only [ev_step, ev_stH, ev_stA]
    exact hx
  | lstore_n q =>
    simp only [ev_ckx, Bool.and_eq_true] at hc
    obtain ⟨h0, h1⟩ := hc
    obtain rfl := Nat.eq_of_beq_eq_true h0
    have e1 : ∀ i0 : Instr, ev_ex nr dfl callf 9 n a b t i0 pc L st h nc ns = ev_w1 (ev_zstL 1 n pc L st) h nc ns := fun _ => rfl
    rw [e1] at hx
    rw [ev_zstL_ok] at hx
    obtain rfl := Nat.eq_of_beq_eq_true h1
    simp only [ev_step, ev_stH, ev_stA]
    exact hx
  | astore q =>
    simp only [ev_ckx, Bool.and_eq_true] at hc
    obtain ⟨h0, h1⟩ := hc
    obtain rfl := Nat.eq_of_beq_eq_true h0
    have e1 : ∀ i0 : Instr, ev_ex nr dfl callf 10 n a b t i0 pc L st h nc ns = ev_w1 (ev_zstR 2 n pc L st) h nc ns := fun _ => rfl
    rw [e1] at hx
    rw [ev_zstR_ok] at hx
    obtain rfl := Nat.eq_of_beq_eq_true h1
    simp only [ev_step, ev_stH, ev_stA]
    exact hx
  | astore_n q =>
    simp only [ev_ckx, Bool.and_eq_true] at hc
    obtain ⟨h0, h1⟩ := hc
    obtain rfl := Nat.eq_of_beq_eq_true h0
    have e1 : ∀ i0 : Instr, ev_ex nr dfl callf 11 n a b t i0 pc L st h nc ns = ev_w1 (ev_zstR 1 n pc L st) h nc ns := fun _ => rfl
    rw [e1] at hx
    rw [ev_zstR_ok] at hx
    obtain rfl := Nat.eq_of_beq_eq_true h1
    simp only [ev_step, ev_stH, ev_stA]
    exact hx
  | iconst q =>
    simp only [ev_ckx, Bool.and_eq_true] at hc
    obtain ⟨⟨h0, h1⟩, h2⟩ := hc
    obtain rfl := Nat.eq_of_beq_eq_true h0
    have e1 : ∀ i0 : Instr, ev_ex nr dfl callf 12 n a b t i0 pc L st h nc ns = some ((pc + 1, L, a :: st), h, nc, ns) := fun _ => rfl
    rw [e1] at hx
    simp only [ev_step, ev_stH, ev_stA]
    rw [h1, h2]
    exact hx
  | bipush q =>
    simp only [ev_ckx, Bool.and_eq_true] at hc
    obtain ⟨⟨h0, h1⟩, h2⟩ := hc
    obtain rfl := Nat.eq_of_beq_eq_true h0
    have e1 : ∀ i0 : Instr, ev_ex nr dfl callf 13 n a b t i0 pc L st h nc ns = some ((pc + 2, L, a :: st), h, nc, ns) := fun _ => rfl
    rw [e1] at hx
    simp only [ev_step, ev_stH, ev_stA]
    rw [h1, h2]
    exact hx
  | sipush q =>
    simp only [ev_ckx, Bool.and_eq_true] at hc
    obtain ⟨⟨h0, h1⟩, h2⟩ := hc
    obtain rfl := Nat.eq_of_beq_eq_true h0
    have e1 : ∀ i0 : Instr, ev_ex nr dfl callf 14 n a b t i0 pc L st h nc ns = some ((pc + 3, L, a :: st), h, nc, ns) := fun _ => rfl
    rw [e1] at hx
    simp only [ev_step, ev_stH, ev_stA]
    rw [h1, h2]
    exact hx
  | lconst q =>
    simp only [ev_ckx, Bool.and_eq_true] at hc
    obtain ⟨h0, h1⟩ := hc
    obtain rfl := Nat.eq_of_beq_eq_true h0
    have e1 : ∀ i0 : Instr, ev_ex nr dfl callf 15 n a b t i0 pc L st h nc ns = some ((pc + 1, L, ev_oLc n :: st), h, nc, ns) := fun _ => rfl
    rw [e1] at hx
    obtain rfl := Nat.eq_of_beq_eq_true h1
    simp only [ev_step, ev_stH, ev_stA]
    exact hx
  | iadd =>
    have h0 : Nat.beq k 16 = true := hc
    obtain rfl := Nat.eq_of_beq_eq_true h0
    have e1 : ∀ i0 : Instr, ev_ex nr dfl callf 16 n a b t i0 pc L st h nc ns = ev_w1 (ev_binI pc L st ev_oAdd) h nc ns := fun _ => rfl
    rw [e1] at hx
    simp only [ev_step, ev_stH, ev_stA]
    exact hx
  | isub =>
    have h0 : Nat.beq k 17 = true := hc
    obtain rfl := Nat.eq_of_beq_eq_true h0
    have e1 : ∀ i0 : Instr, ev_ex nr dfl callf 17 n a b t i0 pc L st h nc ns = ev_w1 (ev_binI pc L st ev_oSub) h nc ns := fun _ => rfl
    rw [e1] at hx
    simp only [ev_step, ev_stH, ev_stA]
    exact hx
  | imul =>
    have h0 : Nat.beq k 18 = true := hc
    obtain rfl := Nat.eq_of_beq_eq_true h0
    have e1 : ∀ i0 : Instr, ev_ex nr dfl callf 18 n a b t i0 pc L st h nc ns = ev_w1 (ev_binI pc L st ev_oMul) h nc ns := fun _ => rfl
    rw [e1] at hx
    simp only [ev_step, ev_stH, ev_stA]
    exact hx
  | iand =>
    have h0 : Nat.beq k 19 = true := hc
    obtain rfl := Nat.eq_of_beq_eq_true h0
    have e1 : ∀ i0 : Instr, ev_ex nr dfl callf 19 n a b t i0 pc L st h nc ns = ev_w1 (ev_binI pc L st ev_oAnd) h nc ns := fun _ => rfl
    rw [e1] at hx
    simp only [ev_step, ev_stH, ev_stA]
    exact hx
  | ior =>
    have h0 : Nat.beq k 20 = true := hc
    obtain rfl := Nat.eq_of_beq_eq_true h0
    have e1 : ∀ i0 : Instr, ev_ex nr dfl callf 20 n a b t i0 pc L st h nc ns = ev_w1 (ev_binI pc L st ev_oOr) h nc ns := fun _ => rfl
    rw [e1] at hx
    simp only [ev_step, ev_stH, ev_stA]
    exact hx
  | ixor =>
    have h0 : Nat.beq k 21 = true := hc
    obtain rfl := Nat.eq_of_beq_eq_true h0
    have e1 : ∀ i0 : Instr, ev_ex nr dfl callf 21 n a b t i0 pc L st h nc ns = ev_w1 (ev_binI pc L st ev_oXor) h nc ns := fun _ => rfl
    rw [e1] at hx
    simp only [ev_step, ev_stH, ev_stA]
    exact hx
  | iushr =>
    have h0 : Nat.beq k 22 = true := hc
    obtain rfl := Nat.eq_of_beq_eq_true h0
    have e1 : ∀ i0 : Instr, ev_ex nr dfl callf 22 n a b t i0 pc L st h nc ns = ev_w1 (ev_binI pc L st ev_oUsh) h nc ns := fun _ => rfl
    rw [e1] at hx
    simp only [ev_step, ev_stH, ev_stA]
    exact hx
  | ineg =>
    have h0 : Nat.beq k 23 = true := hc
    obtain rfl := Nat.eq_of_beq_eq_true h0
    have e1 : ∀ i0 : Instr, ev_ex nr dfl callf 23 n a b t i0 pc L st h nc ns = ev_w1 (ev_unI pc L st ev_oNeg) h nc ns := fun _ => rfl
    rw [e1] at hx
    simp only [ev_step, ev_stH, ev_stA]
    exact hx
  | i2b =>
    have h0 : Nat.beq k 24 = true := hc
    obtain rfl := Nat.eq_of_beq_eq_true h0
    have e1 : ∀ i0 : Instr, ev_ex nr dfl callf 24 n a b t i0 pc L st h nc ns = ev_w1 (ev_unI pc L st ev_b8) h nc ns := fun _ => rfl
    rw [e1] at hx
    simp only [ev_step, ev_stH, ev_stA]
    exact hx
  | i2c =>
    have h0 : Nat.beq k 25 = true := hc
    obtain rfl := Nat.eq_of_beq_eq_true h0
    have e1 : ∀ i0 : Instr, ev_ex nr dfl callf 25 n a b t i0 pc L st h nc ns = ev_w1 (ev_unI pc L st ev_oI2c) h nc ns := fun _ => rfl
    rw [e1] at hx
    simp only [ev_step, ev_stH, ev_stA]
    exact hx
  | i2l =>
    have h0 : Nat.beq k 26 = true := hc
    obtain rfl := Nat.eq_of_beq_eq_true h0
    have e1 : ∀ i0 : Instr, ev_ex nr dfl callf 26 n a b t i0 pc L st h nc ns = ev_w1 (ev_unI pc L st ev_oI2l) h nc ns := fun _ => rfl
    rw [e1] at hx
    simp only [ev_step, ev_stH, ev_stA]
    exact hx
  | ladd =>
    have h0 : Nat.beq k 27 = true := hc
    obtain rfl := Nat.eq_of_beq_eq_true h0
    have e1 : ∀ i0 : Instr, ev_ex nr dfl callf 27 n a b t i0 pc L st h nc ns = ev_w1 (ev_binL pc L st ev_oAddL) h nc ns := fun _ => rfl
    rw [e1] at hx
    simp only [ev_step, ev_stH, ev_stA]
    exact hx
  | lsub =>
    have h0 : Nat.beq k 28 = true := hc
    obtain rfl := Nat.eq_of_beq_eq_true h0
    have e1 : ∀ i0 : Instr, ev_ex nr dfl callf 28 n a b t i0 pc L st h nc ns = ev_w1 (ev_binL pc L st ev_oSubL) h nc ns := fun _ => rfl
    rw [e1] at hx
    simp only [ev_step, ev_stH, ev_stA]
    exact hx
  | lmul =>
    have h0 : Nat.beq k 29 = true := hc
    obtain rfl := Nat.eq_of_beq_eq_true h0
    have e1 : ∀ i0 : Instr, ev_ex nr dfl callf 29 n a b t i0 pc L st h nc ns = ev_w1 (ev_binL pc L st ev_oMulL) h nc ns := fun _ => rfl
    rw [e1] at hx
    simp only [ev_step, ev_stH, ev_stA]
    exact hx
  | land =>
    have h0 : Nat.beq k 30 = true := hc
    obtain rfl := Nat.eq_of_beq_eq_true h0
    have e1 : ∀ i0 : Instr, ev_ex nr dfl callf 30 n a b t i0 pc L st h nc ns = ev_w1 (ev_binL pc L st ev_oAndL) h nc ns := fun _ => rfl
    rw [e1] at hx
    simp only [ev_step, ev_stH, ev_stA]
    exact hx
  | lxor =>
    have h0 : Nat.beq k 31 = true := hc
    obtain rfl := Nat.eq_of_beq_eq_true h0
    have e1 : ∀ i0 : Instr, ev_ex nr dfl callf 31 n a b t i0 pc L st h nc ns = ev_w1 (ev_binL pc L st ev_oXorL) h nc ns := fun _ => rfl
    rw [e1] at hx
    simp only [ev_step, ev_stH, ev_stA]
    exact hx
  | lcmp =>
    have h0 : Nat.beq k 32 = true := hc
    obtain rfl := Nat.eq_of_beq_eq_true h0
    have e1 : ∀ i0 : Instr, ev_ex nr dfl callf 32 n a b t i0 pc L st h nc ns = ev_w1 (ev_binL pc L st ev_oCmpL) h nc ns := fun _ => rfl
    rw [e1] at hx
    simp only [ev_step, ev_stH, ev_stA]
    exact hx
  | l2i =>
    have h0 : Nat.beq k 33 = true := hc
    obtain rfl := Nat.eq_of_beq_eq_true h0
    have e1 : ∀ i0 : Instr, ev_ex nr dfl callf 33 n a b t i0 pc L st h nc ns = ev_w1 (ev_q_l2i pc L st) h nc ns := fun _ => rfl
    rw [e1] at hx
    simp only [ev_step, ev_stH, ev_stA]
    exact hx
  | lushr =>
    have h0 : Nat.beq k 34 = true := hc
    obtain rfl := Nat.eq_of_beq_eq_true h0
    have e1 : ∀ i0 : Instr, ev_ex nr dfl callf 34 n a b t i0 pc L st h nc ns = ev_w1 (ev_q_lushr pc L st) h nc ns := fun _ => rfl
    rw [e1] at hx
    simp only [ev_step, ev_stH, ev_stA]
    exact hx
  | dup =>
    have h0 : Nat.beq k 35 = true := hc
    obtain rfl := Nat.eq_of_beq_eq_true h0
    have e1 : ∀ i0 : Instr, ev_ex nr dfl callf 35 n a b t i0 pc L st h nc ns = ev_w1 (ev_q_dup pc L st) h nc ns := fun _ => rfl
    rw [e1] at hx
    simp only [ev_step, ev_stH, ev_stA]
    exact hx
  | iinc q z =>
    simp only [ev_ckx, Bool.and_eq_true] at hc
    obtain ⟨⟨h0, h1⟩, h2⟩ := hc
    obtain rfl := Nat.eq_of_beq_eq_true h0
    have e1 : ∀ i0 : Instr, ev_ex nr dfl callf 36 n a b t i0 pc L st h nc ns = ev_w1 (ev_ziinc n a pc L st) h nc ns := fun _ => rfl
    rw [e1] at hx
    rw [ev_ziinc_ok] at hx
    obtain rfl := Nat.eq_of_beq_eq_true h1
    simp only [ev_step, ev_stH, ev_stA, h2, Bool.and_true]
    exact hx
  | goto q =>
    simp only [ev_ckx, Bool.and_eq_true] at hc
    obtain ⟨h0, h9⟩ := hc
    obtain rfl := Nat.eq_of_beq_eq_true h0
    have e1 : ∀ i0 : Instr, ev_ex nr dfl callf 37 n a b t i0 pc L st h nc ns = some ((a, L, st), h, nc, ns) := fun _ => rfl
    rw [e1] at hx
    simp only [ev_step, ev_stH, ev_stA, h9, cond_true, Bool.true_and]
    exact hx
  | ifCond cd q =>
    cases cd with
    | eq =>
      simp only [ev_ckx, Bool.and_eq_true] at hc
      obtain ⟨h0, h9⟩ := hc
      obtain rfl := Nat.eq_of_beq_eq_true h0
      have e1 : ∀ i0 : Instr, ev_ex nr dfl callf 38 n a b t i0 pc L st h nc ns = ev_w1 (ev_q_if .eq a pc L st) h nc ns := fun _ => rfl
      rw [e1] at hx
      simp only [ev_step, ev_stH, ev_stA, h9, cond_true, Bool.true_and]
      exact hx
    | ne =>
      simp only [ev_ckx, Bool.and_eq_true] at hc
      obtain ⟨h0, h9⟩ := hc
      obtain rfl := Nat.eq_of_beq_eq_true h0
      have e1 : ∀ i0 : Instr, ev_ex nr dfl callf 39 n a b t i0 pc L st h nc ns = ev_w1 (ev_q_if .ne a pc L st) h nc ns := fun _ => rfl
      rw [e1] at hx
      simp only [ev_step, ev_stH, ev_stA, h9, cond_true, Bool.true_and]
      exact hx
    | lt =>
      simp only [ev_ckx, Bool.and_eq_true] at hc
      obtain ⟨h0, h9⟩ := hc
      obtain rfl := Nat.eq_of_beq_eq_true h0
      have e1 : ∀ i0 : Instr, ev_ex nr dfl callf 40 n a b t i0 pc L st h nc ns = ev_w1 (ev_q_if .lt a pc L st) h nc ns := fun _ => rfl
      rw [e1] at hx
      simp only [ev_step, ev_stH, ev_stA, h9, cond_true, Bool.true_and]
      exact hx
    | ge =>
      simp only [ev_ckx, Bool.and_eq_true] at hc
      obtain ⟨h0, h9⟩ := hc
      obtain rfl := Nat.eq_of_beq_eq_true h0
      have e1 : ∀ i0 : Instr, ev_ex nr dfl callf 41 n a b t i0 pc L st h nc ns = ev_w1 (ev_q_if .ge a pc L st) h nc ns := fun _ => rfl
      rw [e1] at hx
      simp only [ev_step, ev_stH, ev_stA, h9, cond_true, Bool.true_and]
      exact hx
    | gt =>
      simp only [ev_ckx, Bool.and_eq_true] at hc
      obtain ⟨h0, h9⟩ := hc
      obtain rfl := Nat.eq_of_beq_eq_true h0
      have e1 : ∀ i0 : Instr, ev_ex nr dfl callf 42 n a b t i0 pc L st h nc ns = ev_w1 (ev_q_if .gt a pc L st) h nc ns := fun _ => rfl
      rw [e1] at hx
      simp only [ev_step, ev_stH, ev_stA, h9, cond_true, Bool.true_and]
      exact hx
    | le =>
      simp only [ev_ckx, Bool.and_eq_true] at hc
      obtain ⟨h0, h9⟩ := hc
      obtain rfl := Nat.eq_of_beq_eq_true h0
      have e1 : ∀ i0 : Instr, ev_ex nr dfl callf 43 n a b t i0 pc L st h nc ns = ev_w1 (ev_q_if .le a pc L st) h nc ns := fun _ => rfl
      rw [e1] at hx
      simp only [ev_step, ev_stH, ev_stA, h9, cond_true, Bool.true_and]
      exact hx
  | if_icmp cd q =>
    cases cd with
    | eq =>
      simp only [ev_ckx, Bool.and_eq_true] at hc
      obtain ⟨h0, h9⟩ := hc
      obtain rfl := Nat.eq_of_beq_eq_true h0
      have e1 : ∀ i0 : Instr, ev_ex nr dfl callf 44 n a b t i0 pc L st h nc ns = ev_w1 (ev_q_ic .eq a pc L st) h nc ns := fun _ => rfl
      rw [e1] at hx
      simp only [ev_step, ev_stH, ev_stA, h9, cond_true, Bool.true_and]
      exact hx
    | ne =>
      simp only [ev_ckx, Bool.and_eq_true] at hc
      obtain ⟨h0, h9⟩ := hc
      obtain rfl := Nat.eq_of_beq_eq_true h0
      have e1 : ∀ i0 : Instr, ev_ex nr dfl callf 45 n a b t i0 pc L st h nc ns = ev_w1 (ev_q_ic .ne a pc L st) h nc ns := fun _ => rfl
      rw [e1] at hx
      simp only [ev_step, ev_stH, ev_stA, h9, cond_true, Bool.true_and]
      exact hx
    | lt =>
      simp only [ev_ckx, Bool.and_eq_true] at hc
      obtain ⟨h0, h9⟩ := hc
      obtain rfl := Nat.eq_of_beq_eq_true h0
      have e1 : ∀ i0 : Instr, ev_ex nr dfl callf 46 n a b t i0 pc L st h nc ns = ev_w1 (ev_q_ic .lt a pc L st) h nc ns := fun _ => rfl
      rw [e1] at hx
      simp only [ev_step, ev_stH, ev_stA, h9, cond_true, Bool.true_and]
      exact hx
    | ge =>
      simp only [ev_ckx, Bool.and_eq_true] at hc
      obtain ⟨h0, h9⟩ := hc
      obtain rfl := Nat.eq_of_beq_eq_true h0
      have e1 : ∀ i0 : Instr, ev_ex nr dfl callf 47 n a b t i0 pc L st h nc ns = ev_w1 (ev_q_ic .ge a pc L st) h nc ns := fun _ => rfl
      rw [e1] at hx
      simp only [ev_step, ev_stH, ev_stA, h9, cond_true, Bool.true_and]
      exact hx
    | gt =>
      simp only [ev_ckx, Bool.and_eq_true] at hc
      obtain ⟨h0, h9⟩ := hc
      obtain rfl := Nat.eq_of_beq_eq_true h0
      have e1 : ∀ i0 : Instr, ev_ex nr dfl callf 48 n a b t i0 pc L st h nc ns = ev_w1 (ev_q_ic .gt a pc L st) h nc ns := fun _ => rfl
      rw [e1] at hx
      simp only [ev_step, ev_stH, ev_stA, h9, cond_true, Bool.true_and]
      exact hx
    | le =>
      simp only [ev_ckx, Bool.and_eq_true] at hc
      obtain ⟨h0, h9⟩ := hc
      obtain rfl := Nat.eq_of_beq_eq_true h0
      have e1 : ∀ i0 : Instr, ev_ex nr dfl callf 49 n a b t i0 pc L st h nc ns = ev_w1 (ev_q_ic .le a pc L st) h nc ns := fun _ => rfl
      rw [e1] at hx
      simp only [ev_step, ev_stH, ev_stA, h9, cond_true, Bool.true_and]
      exact hx
  | getfield q =>
    have h0 : Nat.beq k 50 = true := hc
    obtain rfl := Nat.eq_of_beq_eq_true h0
    have e1 : ∀ i0 : Instr, ev_ex nr dfl callf 50 n a b t i0 pc L st h nc ns = ev_zgf a b pc L st h nc ns := fun _ => rfl
    rw [e1] at hx
    rw [ev_zgf_ok] at hx
    simp only [ev_step, ev_stH, ev_stA]
    exact hx
  | putfield q =>
    have h0 : Nat.beq k 51 = true := hc
    obtain rfl := Nat.eq_of_beq_eq_true h0
    have e1 : ∀ i0 : Instr, ev_ex nr dfl callf 51 n a b t i0 pc L st h nc ns = ev_zpf nr a b t pc L st h nc ns := fun _ => rfl
    rw [e1] at hx
    rw [ev_zpf_ok] at hx
    simp only [ev_step, ev_stH, ev_stA]
    exact hx
  | iaload =>
    have h0 : Nat.beq k 52 = true := hc
    obtain rfl := Nat.eq_of_beq_eq_true h0
    have e1 : ∀ i0 : Instr, ev_ex nr dfl callf 52 n a b t i0 pc L st h nc ns = ev_zrdI 1000 pc L st h nc ns := fun _ => rfl
    rw [e1] at hx
    rw [ev_zrdI_ok] at hx
    simp only [ev_step, ev_stH, ev_stA]
    exact hx
  | iastore =>
    have h0 : Nat.beq k 53 = true := hc
    obtain rfl := Nat.eq_of_beq_eq_true h0
    have e1 : ∀ i0 : Instr, ev_ex nr dfl callf 53 n a b t i0 pc L st h nc ns = ev_zias nr pc L st h nc ns := fun _ => rfl
    rw [e1] at hx
    rw [ev_zias_ok] at hx
    simp only [ev_step, ev_stH, ev_stA]
    exact hx
  | baload =>
    have h0 : Nat.beq k 54 = true := hc
    obtain rfl := Nat.eq_of_beq_eq_true h0
    have e1 : ∀ i0 : Instr, ev_ex nr dfl callf 54 n a b t i0 pc L st h nc ns = ev_zbal pc L st h nc ns := fun _ => rfl
    rw [e1] at hx
    simp only [ev_zbal, ev_zisZ_ok, ev_zrdI_ok] at hx
    simp only [ev_step, ev_stH, ev_stA]
    exact hx
  | bastore =>
    have h0 : Nat.beq k 55 = true := hc
    obtain rfl := Nat.eq_of_beq_eq_true h0
    have e1 : ∀ i0 : Instr, ev_ex nr dfl callf 55 n a b t i0 pc L st h nc ns = ev_zbas nr pc L st h nc ns := fun _ => rfl
    rw [e1] at hx
    simp only [ev_zbas, ev_zisZ_ok, ev_zwr_ok] at hx
    simp only [ev_step, ev_stH, ev_stA]
    exact hx
  | invokevirtual q =>
    have h0 : Nat.beq k 56 = true := hc
    obtain rfl := Nat.eq_of_beq_eq_true h0
    have e1 : ∀ i0 : Instr, ev_ex nr dfl callf 56 n a b t i0 pc L st h nc ns = ev_ziv callf a b t pc L st h nc ns := fun _ => rfl
    rw [e1] at hx
    simp only [ev_step]
    exact ev_ziv_ok callf a b t pc L st h nc ns g hx
  | invokestatic q =>
    have h0 : Nat.beq k 57 = true := hc
    obtain rfl := Nat.eq_of_beq_eq_true h0
    have e1 : ∀ i0 : Instr, ev_ex nr dfl callf 57 n a b t i0 pc L st h nc ns = ev_zinv callf a b pc L st h nc ns := fun _ => rfl
    rw [e1] at hx
    rw [ev_zinv_ok] at hx
    simp only [ev_step, ev_stH, ev_stA]
    exact hx
  | return_ => cases hret
  | ireturn => cases hret
  | lreturn => cases hret
  | areturn => cases hret
  | _ =>
    obtain rfl := Nat.eq_of_beq_eq_true (show Nat.beq k 58 = true from hc)
    exact hx

/-- by the quick way, or (number 59) by the full step with its further rules -/
noncomputable def ev_exX (nr : Nat) (dfl : Nat → Nat) (callf : Nat → List Nat → ev_H → Option ev_A) (k n a b t : Nat) (i : Instr) (pc : Nat) (L st : List Nat) (h : ev_H) (nc ns : Nat) : Option ev_G := bif Nat.beq k 59 then ev_stepX nr dfl callf i a b t pc L st h nc ns else ev_ex nr dfl callf k n a b t i pc L st h nc ns
def ev_ckX (i : Instr) (k n a t pc : Nat) : Bool := bif Nat.beq k 59 then !(ev_isRet i) else (ev_ckx i k n a pc && !(ev_pre i a t))
theorem ev_exX_ok {nr : Nat} {dfl : Nat → Nat} {callf : Nat → List Nat → ev_H → Option ev_A} {k n a b t pc nc ns : Nat} {i : Instr} {L st : List Nat} {h : ev_H} {g : ev_G} (hret : ev_isRet i = false) (hc : ev_ckX i k n a t pc = true) (hx : ev_exX nr dfl callf k n a b t i pc L st h nc ns = some g) : ev_stepX nr dfl callf i a b t pc L st h nc ns = some g := by
  unfold ev_exX at hx
  unfold ev_ckX at hc
  cases hk : Nat.beq k 59
  · rw [hk, cond_false] at hx hc
    simp only [Bool.and_eq_true] at hc
    have hp : ev_pre i a t = false := by
      cases hq : ev_pre i a t
      · rfl
      · rw [hq] at hc; cases hc.2
    exact ev_stepX_of hp (ev_ex_ok hret hc.1 hx)
  · rw [hk, cond_true] at hx
    exact hx
theorem ev_ckX_ret {i : Instr} {k n a t pc : Nat} (hc : ev_ckX i k n a t pc = true) (hq : Nat.beq k 1000 = false) : ev_isRet i = false := by
  unfold ev_ckX at hc
  cases hk : Nat.beq k 59
  · rw [hk, cond_false] at hc
    simp only [Bool.and_eq_true] at hc
    have hc := hc.1
    cases i <;> first
      | rfl
      | (have := (show Nat.beq k 1000 = true from hc); rw [hq] at this; cases this)
  · rw [hk, cond_true] at hc
    cases hr : ev_isRet i
    · rfl
    · rw [hr] at hc; cases hc
/-! the quick run -/
abbrev ev_KI : Type := ev_I × Nat × Nat
abbrev ev_MeK : Type := MethodName × ByteArray × Nat × Option FieldType × List (List ev_KI)
def ev_un (code : List (List ev_KI)) : List (List ev_I) := code.map (fun l => l.map Prod.fst)
def ev_unM (m : ev_MeK) : ev_Me := (m.1, m.2.1, m.2.2.1, m.2.2.2.1, ev_un m.2.2.2.2)
noncomputable def ev_nth (l : List (List ev_KI)) : Nat → List ev_KI := List.rec (fun _ => []) (fun a _ ih n => Bool.rec (ih (Nat.pred n)) a (Nat.beq n 0)) l
noncomputable def ev_fnd (l : List ev_KI) : Nat → Option ev_KI := List.rec (fun _ => none) (fun x _ ih pc => Bool.rec (ih pc) (some x) (Nat.beq x.1.1 pc)) l
noncomputable def ev_runK (nr : Nat) (dfl : Nat → Nat) (callf : Nat → List Nat → ev_H → Option ev_A) (code : List (List ev_KI)) (rt : Option FieldType) (n : Nat) : Nat → List Nat → List Nat → ev_H → Nat → Nat → Option ev_A :=
  Nat.rec (fun _ _ _ _ _ _ => none) (fun _ ih pc L st h nc ns => match ev_fnd (ev_nth code (pc / 16)) pc with
    | some x => bif Nat.beq x.2.1 1000 then (match ev_end x.1.2.1 rt st with
        | some r => some (r, h, nc, ns)
        | none => none)
      else (match ev_exX nr dfl callf x.2.1 x.2.2 x.1.2.2.2.1 x.1.2.2.2.2.1 x.1.2.2.2.2.2.1 x.1.2.1 pc L st h nc ns with
        | some ((pc1, L1, st1), h1, nc1, ns1) => bif Nat.ble nc nc1 && Nat.ble ns ns1 then ih pc1 L1 st1 h1 nc1 ns1 else none
        | none => none)
    | none => none) n
theorem ev_runK_s (nr : Nat) (dfl : Nat → Nat) (callf : Nat → List Nat → ev_H → Option ev_A) (code : List (List ev_KI)) (rt : Option FieldType) (n : Nat) (pc : Nat) (L st : List Nat) (h : ev_H) (nc ns : Nat) : ev_runK nr dfl callf code rt (n + 1) pc L st h nc ns = match ev_fnd (ev_nth code (pc / 16)) pc with
    | some x => bif Nat.beq x.2.1 1000 then (match ev_end x.1.2.1 rt st with
        | some r => some (r, h, nc, ns)
        | none => none)
      else (match ev_exX nr dfl callf x.2.1 x.2.2 x.1.2.2.2.1 x.1.2.2.2.2.1 x.1.2.2.2.2.2.1 x.1.2.1 pc L st h nc ns with
        | some ((pc1, L1, st1), h1, nc1, ns1) => bif Nat.ble nc nc1 && Nat.ble ns ns1 then ev_runK nr dfl callf code rt n pc1 L1 st1 h1 nc1 ns1 else none
        | none => none)
    | none => none := rfl
noncomputable def ev_metK (nr : Nat) (dfl : Nat → Nat) (mt : List ev_MeK) (d : Nat) : Nat → List Nat → ev_H → Option ev_A :=
  Nat.rec (fun _ _ _ => none) (fun _ ih mid as h => match ev_gt mt mid with
    | some m => bif Nat.ble (ev_ent as).length m.2.2.1 then ev_runK nr dfl ih m.2.2.2.2 m.2.2.2.1 10000000 0 (ev_ent as ++ List.replicate (m.2.2.1 - (ev_ent as).length) 73786976294838206464) [] h 0 0 else none
    | none => none) d
def ev_ckK (code : List (List ev_KI)) : Bool := code.all (fun l => l.all (fun x => ev_ckX x.1.2.1 x.2.1 x.2.2 x.1.2.2.2.1 x.1.2.2.2.2.2.1 x.1.1))
theorem ev_nth_ok : ∀ (code : List (List ev_KI)) (n : Nat), ev_nth code n = (code[n]?).getD []
  | [], n => by simp; rfl
  | a :: l, 0 => rfl
  | a :: l, n + 1 => by
    have e : ev_nth (a :: l) (n + 1) = ev_nth l n := rfl
    rw [e, ev_nth_ok l n]
    simp
theorem ev_fnd_ok : ∀ (l : List ev_KI) (pc : Nat) (x : ev_KI), ev_fnd l pc = some x → (l.map Prod.fst).find? (fun y => Nat.beq y.1 pc) = some x.1 ∧ x ∈ l ∧ x.1.1 = pc
  | [], _, _, h => by cases h
  | y :: l, pc, x, h => by
    have e : ev_fnd (y :: l) pc = Bool.rec (ev_fnd l pc) (some y) (Nat.beq y.1.1 pc) := rfl
    rw [e] at h
    cases hq : Nat.beq y.1.1 pc
    · rw [hq] at h
      have h : ev_fnd l pc = some x := h
      obtain ⟨h1, h2, h3⟩ := ev_fnd_ok l pc x h
      refine ⟨?_, List.mem_cons_of_mem _ h2, h3⟩
      rw [List.map_cons, List.find?_cons, hq]
      exact h1
    · rw [hq] at h
      have h : some y = some x := h
      cases h
      refine ⟨?_, List.mem_cons_self, Nat.eq_of_beq_eq_true hq⟩
      rw [List.map_cons, List.find?_cons, hq]
theorem ev_ftK_ok {code : List (List ev_KI)} {pc : Nat} {x : ev_KI} (h : ev_fnd (ev_nth code (pc / 16)) pc = some x) : ev_ft (ev_un code) pc = some x.1 ∧ (∃ l ∈ code, x ∈ l) ∧ x.1.1 = pc := by
  rw [ev_nth_ok] at h
  unfold ev_ft ev_un
  rw [List.getElem?_map]
  cases hc : code[pc / 16]? with
  | none =>
    rw [hc] at h
    cases h
  | some l =>
    rw [hc] at h
    obtain ⟨h1, h2, h3⟩ := ev_fnd_ok l pc x h
    exact ⟨h1, ⟨l, List.mem_of_getElem? hc, h2⟩, h3⟩
theorem ev_inv_up {c1 c2 : Nat → List Nat → ev_H → Option ev_A} (hcf : ∀ mid as h r, c1 mid as h = some r → c2 mid as h = some r) {mid n pc nc ns : Nat} {L st : List Nat} {h : ev_H} {g : ev_G} (hx : ev_inv c1 mid n pc L st h nc ns = some g) : ev_inv c2 mid n pc L st h nc ns = some g := by
  unfold ev_inv at hx ⊢
  cases hq : (Nat.ble n st.length && Nat.ble (ev_cat (st.drop n)) 8)
  · rw [hq, cond_false] at hx; cases hx
  · rw [hq, cond_true] at hx
    rw [cond_true]
    cases hc : c1 mid (st.take n).reverse h with
    | none => rw [hc] at hx; cases hx
    | some r => rw [hc] at hx; rw [hcf _ _ _ _ hc]; exact hx
theorem ev_step_up {c1 c2 : Nat → List Nat → ev_H → Option ev_A} (hcf : ∀ mid as h r, c1 mid as h = some r → c2 mid as h = some r) {nr : Nat} {dfl : Nat → Nat} {i : Instr} {a b t pc nc ns : Nat} {L st : List Nat} {h : ev_H} {g : ev_G} (hx : ev_step nr dfl c1 i a b t pc L st h nc ns = some g) : ev_step nr dfl c2 i a b t pc L st h nc ns = some g := by
  cases i with
  | invokespecial idx =>
    simp only [ev_step] at hx ⊢
    cases hb : Nat.beq b 0
    · rw [hb, cond_false] at hx
      rw [cond_false]
      split at hx
      · rename_i r st' hd
        cases hr : ev_isR r
        · rw [hr, cond_false] at hx; cases hx
        · rw [hr, cond_true] at hx
          simp only [cond_true]
          exact ev_inv_up hcf hx
      · cases hx
    · rw [hb, cond_true] at hx
      rw [cond_true]
      exact hx
  | invokestatic idx =>
    simp only [ev_step] at hx ⊢
    exact ev_inv_up hcf hx
  | invokevirtual idx =>
    simp only [ev_step] at hx ⊢
    split at hx
    · split at hx
      · rename_i x ho
        cases hq : (Nat.beq x.1 t && Nat.blt 0 b)
        · rw [hq, cond_false] at hx; cases hx
        · rw [hq, cond_true] at hx
          simp only [ho, hq, cond_true]
          exact ev_inv_up hcf hx
      · cases hx
    · cases hx
  | _ => exact hx
theorem ev_stK_up {c1 c2 : Nat → List Nat → ev_H → Option ev_A} (hcf : ∀ mid as h r, c1 mid as h = some r → c2 mid as h = some r) {nr : Nat} {dfl : Nat → Nat} {i : Instr} {a b t pc nc ns : Nat} {L st : List Nat} {h : ev_H} {g : ev_G} (hx : ev_stK nr dfl c1 i a b t pc L st h nc ns = some g) : ev_stK nr dfl c2 i a b t pc L st h nc ns = some g := by
  cases i with
  | invokevirtual idx =>
    simp only [ev_stK] at hx ⊢
    split at hx
    · rename_i r st' hd
      cases hq : (ev_isK r && (Nat.beq t 1 && Nat.blt 0 b))
      · rw [hq, cond_false] at hx; cases hx
      · rw [hq, cond_true] at hx
        simp only [cond_true]
        exact ev_inv_up hcf hx
    · cases hx
  | _ => exact hx
theorem ev_stepX_up {c1 c2 : Nat → List Nat → ev_H → Option ev_A} (hcf : ∀ mid as h r, c1 mid as h = some r → c2 mid as h = some r) {nr : Nat} {dfl : Nat → Nat} {i : Instr} {a b t pc nc ns : Nat} {L st : List Nat} {h : ev_H} {g : ev_G} (hx : ev_stepX nr dfl c1 i a b t pc L st h nc ns = some g) : ev_stepX nr dfl c2 i a b t pc L st h nc ns = some g := by
  unfold ev_stepX at hx ⊢
  cases hp : ev_pre i a t
  · rw [hp, cond_false] at hx
    rw [cond_false]
    cases hs : ev_step nr dfl c1 i a b t pc L st h nc ns with
    | some g0 =>
      rw [hs] at hx
      rw [ev_step_up hcf hs]
      exact hx
    | none =>
      rw [hs] at hx
      have hx : ev_stK nr dfl c1 i a b t pc L st h nc ns = some g := hx
      have h2 : ev_step nr dfl c2 i a b t pc L st h nc ns = none := by
        cases i with
        | invokevirtual idx =>
          simp only [ev_stK] at hx
          simp only [ev_step]
          split at hx
          · rename_i r st' hd
            cases hq : (ev_isK r && (Nat.beq t 1 && Nat.blt 0 b))
            · rw [hq, cond_false] at hx; cases hx
            · simp only [Bool.and_eq_true] at hq
              have hr : ev_isR r = false := by
                have h5 := Nat.le_of_ble_eq_true (show Nat.ble 92233720368547758080 r = true from by
                  have := hq.1
                  simp only [ev_isK, Bool.and_eq_true] at this
                  exact this.1)
                cases hz : ev_isR r
                · rfl
                · have := ev_isR_s hz
                  omega
              have ho : ev_o h r = none := by
                unfold ev_o
                rw [hr]
                rfl
              rw [ho]
          · cases hx
        | invokestatic idx =>
          simp only [ev_stK] at hx
          have hp : (Nat.ble 997 a && Nat.ble a 999) = false := hp
          rw [hp, cond_false] at hx
          cases hx
        | invokespecial idx => cases hx
        | _ => exact hs
      rw [h2]
      exact ev_stK_up hcf hx
  · rw [hp, cond_true] at hx
    rw [cond_true]
    exact ev_stK_up hcf hx
theorem ev_runK_ok {nr : Nat} {dfl : Nat → Nat} {c1 c2 : Nat → List Nat → ev_H → Option ev_A} (hcf : ∀ mid as h r, c1 mid as h = some r → c2 mid as h = some r) {code : List (List ev_KI)} (hk : ev_ckK code = true) {rt : Option FieldType} {r : ev_A} : ∀ (n pc : Nat) (L st : List Nat) (h : ev_H) (nc ns : Nat), ev_runK nr dfl c1 code rt n pc L st h nc ns = some r → ev_run nr dfl c2 (ev_un code) rt n pc L st h nc ns = some r
  | 0, _, _, _, _, _, _, h => by cases h
  | n + 1, pc, L, st, h, nc, ns, hr => by
    rw [ev_runK_s] at hr
    rw [ev_run_s]
    split at hr
    · rename_i x hx
      obtain ⟨h1, ⟨l, h2, h3⟩, h4⟩ := ev_ftK_ok hx
      have hc := List.all_eq_true.mp (List.all_eq_true.mp hk l h2) x h3
      rw [h4] at hc
      rw [h1]
      dsimp only
      cases hq : Nat.beq x.2.1 1000
      · rw [hq, cond_false] at hr
        have hret : ev_isRet x.1.2.1 = false := ev_ckX_ret hc hq
        have hend : ev_end x.1.2.1 rt st = none := by
          cases hi : x.1.2.1 <;> first
            | rfl
            | (rw [hi] at hret; cases hret)
        rw [hend]
        dsimp only
        split at hr
        · rename_i pc1 L1 st1 h1 nc1 ns1 hg
          rw [ev_stepX_up hcf (ev_exX_ok hret hc hg)]
          dsimp only
          cases hm : (Nat.ble nc nc1 && Nat.ble ns ns1)
          · rw [hm, cond_false] at hr; cases hr
          · rw [hm, cond_true] at hr
            rw [cond_true]
            exact ev_runK_ok hcf hk n _ _ _ _ _ _ hr
        · cases hr
      · rw [hq, cond_true] at hr
        split at hr
        · rename_i r0 he
          rw [he]
          exact hr
        · cases hr
    · cases hr
theorem ev_metK_ok {nr : Nat} {dfl : Nat → Nat} {mt : List ev_MeK} (hk : ∀ (k : Nat) (m : ev_MeK), mt[k]? = some m → ev_ckK m.2.2.2.2 = true) {r : ev_A} : ∀ (d mid : Nat) (as : List Nat) (h : ev_H), ev_metK nr dfl mt d mid as h = some r → ev_met nr dfl (mt.map ev_unM) d mid as h = some r
  | 0, _, _, _, h => by cases h
  | d + 1, mid, as, h, hr => by
    have hr : (match ev_gt mt mid with
      | some m => bif Nat.ble (ev_ent as).length m.2.2.1 then ev_runK nr dfl (ev_metK nr dfl mt d) m.2.2.2.2 m.2.2.2.1 10000000 0 (ev_ent as ++ List.replicate (m.2.2.1 - (ev_ent as).length) 73786976294838206464) [] h 0 0 else none
      | none => none) = some r := hr
    rw [ev_gt_ok] at hr
    show (match (mt.map ev_unM)[mid]? with
      | some m => bif Nat.ble (ev_ent as).length m.2.2.1 then ev_run nr dfl (ev_met nr dfl (mt.map ev_unM) d) m.2.2.2.2 m.2.2.2.1 10000000 0 (ev_ent as ++ List.replicate (m.2.2.1 - (ev_ent as).length) 73786976294838206464) [] h 0 0 else none
      | none => none) = some r
    rw [List.getElem?_map]
    cases hm : mt[mid]? with
    | none => rw [hm] at hr; cases hr
    | some m =>
      rw [hm] at hr
      dsimp only at hr
      show (bif Nat.ble (ev_ent as).length m.2.2.1 then ev_run nr dfl (ev_met nr dfl (mt.map ev_unM) d) (ev_un m.2.2.2.2) m.2.2.2.1 10000000 0 (ev_ent as ++ List.replicate (m.2.2.1 - (ev_ent as).length) 73786976294838206464) [] h 0 0 else none) = some r
      cases hq : Nat.ble (ev_ent as).length m.2.2.1
      · rw [hq, cond_false] at hr; cases hr
      · rw [hq, cond_true] at hr
        rw [cond_true]
        exact ev_runK_ok (fun mid as h r q => ev_metK_ok hk d mid as h q) (hk mid m hm) 10000000 0 _ _ _ _ _ hr
