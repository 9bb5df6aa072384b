/-! ===== 13: runs of the evaluator in pieces ===== -/
theorem ev_run_fuel {nr : Nat} {dfl : Nat → Nat} {cf : Nat → List Nat → ev_H → Option ev_A} {code : List (List ev_I)} {rt : Option FieldType} {r : ev_A} : ∀ (n j pc : Nat) (L st : List Nat) (h : ev_H) (nc ns : Nat), ev_run nr dfl cf code rt n pc L st h nc ns = some r → ev_run nr dfl cf code rt (n + j) pc L st h nc ns = some r
  | 0, _, _, _, _, _, _, _, h => by cases h
  | n + 1, j, pc, L, st, h, nc, ns, hr => by
    rw [show n + 1 + j = n + j + 1 by omega, ev_run_s]
    rw [ev_run_s] at hr
    split at hr
    · rename_i x hx
      split at hr
      · rename_i r0 he
        exact hr
      · rename_i he
        split at hr
        · rename_i g hg
          cases hm : (Nat.ble nc g.2.2.1 && Nat.ble ns g.2.2.2)
          · rw [hm, cond_false] at hr; cases hr
          · rw [hm, cond_true] at hr
            rw [cond_true]
            exact ev_run_fuel n j _ _ _ _ _ _ hr
        · cases hr
    · cases hr
/-- from one state to another in k instructions -/
def ev_goes (nr : Nat) (dfl : Nat → Nat) (cf : Nat → List Nat → ev_H → Option ev_A) (code : List (List ev_I)) (rt : Option FieldType) (k : Nat) (a b : ev_G) : Prop :=
  ∀ n : Nat, ev_run nr dfl cf code rt (n + k) a.1.1 a.1.2.1 a.1.2.2 a.2.1 a.2.2.1 a.2.2.2 = ev_run nr dfl cf code rt n b.1.1 b.1.2.1 b.1.2.2 b.2.1 b.2.2.1 b.2.2.2
theorem ev_goes.rf {nr : Nat} {dfl : Nat → Nat} {cf : Nat → List Nat → ev_H → Option ev_A} {code : List (List ev_I)} {rt : Option FieldType} (a : ev_G) : ev_goes nr dfl cf code rt 0 a a := fun _ => rfl
theorem ev_goes.tr {nr : Nat} {dfl : Nat → Nat} {cf : Nat → List Nat → ev_H → Option ev_A} {code : List (List ev_I)} {rt : Option FieldType} {j k : Nat} {a b c : ev_G} (h1 : ev_goes nr dfl cf code rt j a b) (h2 : ev_goes nr dfl cf code rt k b c) : ev_goes nr dfl cf code rt (k + j) a c := fun n => by
  rw [← Nat.add_assoc, h1 (n + k), h2 n]
theorem ev_goes.one {nr : Nat} {dfl : Nat → Nat} {cf : Nat → List Nat → ev_H → Option ev_A} {code : List (List ev_I)} {rt : Option FieldType} {pc nc ns : Nat} {L st : List Nat} {h : ev_H} {x : ev_I} {g : ev_G} (h1 : ev_ft code pc = some x) (h2 : ev_end x.2.1 rt st = none) (h3 : ev_step nr dfl cf x.2.1 x.2.2.2.1 x.2.2.2.2.1 x.2.2.2.2.2.1 pc L st h nc ns = some g) (h4 : (Nat.ble nc g.2.2.1 && Nat.ble ns g.2.2.2) = true) : ev_goes nr dfl cf code rt 1 ((pc, L, st), h, nc, ns) g := fun n => by
  show ev_run nr dfl cf code rt (n + 1) pc L st h nc ns = _
  rw [ev_run_s, h1]
  dsimp only
  rw [h2]
  dsimp only
  rw [h3]
  dsimp only
  rw [h4, cond_true]
theorem ev_goes.end {nr : Nat} {dfl : Nat → Nat} {cf : Nat → List Nat → ev_H → Option ev_A} {code : List (List ev_I)} {rt : Option FieldType} {k n N : Nat} {a b : ev_G} {r : ev_A} (h : ev_goes nr dfl cf code rt k a b) (hr : ev_run nr dfl cf code rt n b.1.1 b.1.2.1 b.1.2.2 b.2.1 b.2.2.1 b.2.2.2 = some r) (hN : n + k ≤ N) : ev_run nr dfl cf code rt N a.1.1 a.1.2.1 a.1.2.2 a.2.1 a.2.2.1 a.2.2.2 = some r := by
  obtain ⟨j, rfl⟩ := Nat.exists_eq_add_of_le hN
  rw [show n + k + j = n + j + k by omega, h (n + j)]
  exact ev_run_fuel n j _ _ _ _ _ _ hr
/-- a run up to a place -/
noncomputable def ev_runU (nr : Nat) (dfl : Nat → Nat) (callf : Nat → List Nat → ev_H → Option ev_A) (code : List (List ev_KI)) (stop n : Nat) : Nat → List Nat → List Nat → ev_H → Nat → Nat → Option ev_G :=
  Nat.rec (fun _ _ _ _ _ _ => none) (fun _ ih pc L st h nc ns => bif Nat.beq pc stop then some ((pc, L, st), h, nc, ns) else match ev_fnd (ev_nth code (pc / 16)) pc with
    | some x => bif Nat.beq x.2.1 1000 then none
      else (match ev_ex nr dfl callf x.2.1 x.2.2 x.1.2.2.2.1 x.1.2.2.2.2.1 x.1.2.2.2.2.2.1 x.1.2.1 pc L st h nc ns with
        | some ((pc1, L1, st1), h1, nc1, ns1) => bif Nat.ble nc nc1 && Nat.ble ns ns1 then ih pc1 L1 st1 h1 nc1 ns1 else none
        | none => none)
    | none => none) n
theorem ev_runU_s (nr : Nat) (dfl : Nat → Nat) (callf : Nat → List Nat → ev_H → Option ev_A) (code : List (List ev_KI)) (stop n : Nat) (pc : Nat) (L st : List Nat) (h : ev_H) (nc ns : Nat) : ev_runU nr dfl callf code stop (n + 1) pc L st h nc ns = bif Nat.beq pc stop then some ((pc, L, st), h, nc, ns) else match ev_fnd (ev_nth code (pc / 16)) pc with
    | some x => bif Nat.beq x.2.1 1000 then none
      else (match ev_ex nr dfl callf x.2.1 x.2.2 x.1.2.2.2.1 x.1.2.2.2.2.1 x.1.2.2.2.2.2.1 x.1.2.1 pc L st h nc ns with
        | some ((pc1, L1, st1), h1, nc1, ns1) => bif Nat.ble nc nc1 && Nat.ble ns ns1 then ev_runU nr dfl callf code stop n pc1 L1 st1 h1 nc1 ns1 else none
        | none => none)
    | none => none := rfl
theorem ev_ckx_ret {i : Instr} {k n a pc : Nat} (hc : ev_ckx i k n a pc = true) (hq : Nat.beq k 1000 = false) : ev_isRet i = false := by
  cases i <;> first
    | rfl
    | (have := (show Nat.beq k 1000 = true from hc); rw [hq] at this; cases this)
theorem ev_end_no {i : Instr} (hret : ev_isRet i = false) (rt : Option FieldType) (st : List Nat) : ev_end i rt st = none := by
  cases i <;> first
    | rfl
    | cases hret
theorem ev_runU_ok {nr : Nat} {dfl : Nat → Nat} {c1 c2 : Nat → List Nat → ev_H → Option ev_A} (hcf : ∀ mid as h r, c1 mid as h = some r → c2 mid as h = some r) {code : List (List ev_KI)} (hk : ev_ckK code = true) (rt : Option FieldType) {stop : Nat} {g : ev_G} : ∀ (n pc : Nat) (L st : List Nat) (h : ev_H) (nc ns : Nat), ev_runU nr dfl c1 code stop n pc L st h nc ns = some g → ∃ k, k ≤ n ∧ ev_goes nr dfl c2 (ev_un code) rt k ((pc, L, st), h, nc, ns) g ∧ g.1.1 = stop
  | 0, _, _, _, _, _, _, h => by cases h
  | n + 1, pc, L, st, h, nc, ns, hr => by
    rw [ev_runU_s] at hr
    cases hp : Nat.beq pc stop
    · rw [hp, cond_false] at hr
      split at hr
      · rename_i x hx
        obtain ⟨h1, ⟨l, h2, h3⟩, h4⟩ := ev_ftK_ok hx
        have hc := List.all_eq_true.mp (List.all_eq_true.mp hk l h2) x h3
        rw [h4] at hc
        cases hq : Nat.beq x.2.1 1000
        · rw [hq, cond_false] at hr
          have hret := ev_ckx_ret hc hq
          split at hr
          · rename_i pc1 L1 st1 h1' nc1 ns1 hg
            cases hm : (Nat.ble nc nc1 && Nat.ble ns ns1)
            · rw [hm, cond_false] at hr; cases hr
            · rw [hm, cond_true] at hr
              obtain ⟨k, k1, k2, k3⟩ := ev_runU_ok hcf hk rt n _ _ _ _ _ _ hr
              have h1s := ev_goes.one (nr := nr) (dfl := dfl) (cf := c2) (rt := rt) h1 (ev_end_no hret rt st) (ev_step_up hcf (ev_ex_ok hret hc hg)) hm
              exact ⟨k + 1, by omega, h1s.tr k2, k3⟩
          · cases hr
        · rw [hq, cond_true] at hr; cases hr
      · cases hr
    · rw [hp, cond_true] at hr
      cases hr
      exact ⟨0, Nat.zero_le _, ev_goes.rf _, Nat.eq_of_beq_eq_true hp⟩
theorem ev_up_up {A j v w : Nat} (hv : v < 4722366482869645213696) : ev_up (ev_up A j v) j w = ev_up A j w := by
  have e : ev_at (ev_up A j v) j = v := by rw [ev_at_up hv, if_pos rfl]
  unfold ev_up at e ⊢
  rw [e]
  apply Nat.eq_of_testBit_eq
  intro i
  simp only [Nat.testBit_xor, Nat.testBit_shiftLeft]
  cases h1 : A.testBit i <;> cases h2 : decide (i ≥ 72 * j) <;> cases h3 : (ev_at A j).testBit (i - 72 * j) <;> cases h4 : v.testBit (i - 72 * j) <;> cases h5 : w.testBit (i - 72 * j) <;> rfl
