/-! ===== 06: the evaluator: methods, calls, runs ===== -/
/-- an instruction's row: its place, it, its length where that isn't fixed, and what it speaks of -/
abbrev ev_I : Type := Nat × Instr × Nat × Nat × Nat × Nat × Nat
/-- a method: its name, its code, its locals, what it returns, its rows by sixteens -/
abbrev ev_Me : Type := MethodName × ByteArray × Nat × Option FieldType × List (List ev_I)
abbrev ev_A : Type := Option Nat × ev_H × Nat × Nat
def ev_ft (code : List (List ev_I)) (pc : Nat) : Option ev_I := match code[pc / 16]? with
  | some l => l.find? (fun x => Nat.beq x.1 pc)
  | none => none
def ev_rok (ty : FieldType) (x : Nat) : Bool := match ty with
  | .int => true
  | .boolean => Nat.blt x 2
  | .char => Nat.blt x 65536
  | .byte => Nat.beq (ev_b8 x) x
  | _ => false
def ev_isO (ty : FieldType) : Bool := match ty with
  | .object _ => true
  | .array _ => true
  | _ => false
def ev_end (i : Instr) (rt : Option FieldType) (st : List Nat) : Option (Option Nat) := match i with
  | .return_ => match rt, st with
    | none, [] => some none
    | _, _ => none
  | .ireturn => match rt, st with
    | some ty, [x] => bif ev_isI x && ev_rok ty x then some (some x) else none
    | _, _ => none
  | .lreturn => match rt, st with
    | some .long, [x] => bif ev_isL x then some (some x) else none
    | _, _ => none
  | .areturn => match rt, st with
    | some ty, [x] => bif ev_isO ty && (ev_isR x || ev_isN x) then some (some x) else none
    | _, _ => none
  | _ => none
def ev_cat : List Nat → Nat
  | [] => 0
  | x :: l => (bif ev_isL x then 2 else 1) + ev_cat l
/-- a call: n values are taken, the receiver among them -/
def ev_inv (callf : Nat → List Nat → ev_H → Option ev_A) (mid n pc : Nat) (L st : List Nat) (h : ev_H) (nc ns : Nat) : Option ev_G :=
  bif Nat.ble n st.length && Nat.ble (ev_cat (st.drop n)) 8 then
    (match callf mid (st.take n).reverse h with
    | some (some r, h', mc, ms) => some ((pc + 3, L, r :: st.drop n), h', nc + mc, ns + ms)
    | some (none, h', mc, ms) => some ((pc + 3, L, st.drop n), h', nc + mc, ns + ms)
    | none => none)
  else none
def ev_step (nr : Nat) (dfl : Nat → Nat) (callf : Nat → List Nat → ev_H → Option ev_A) (i : Instr) (a b t pc : Nat) (L st : List Nat) (h : ev_H) (nc ns : Nat) : Option ev_G := match i with
  | .invokespecial _ => bif Nat.beq b 0 then (match st with
      | r :: st' => bif ev_isR r && Nat.ble (ev_cat st') 8 then some ((pc + 3, L, st'), h, nc, ns) else none
      | [] => none)
    else (match st.drop (b - 1) with
      | r :: _ => bif ev_isR r then ev_inv callf a b pc L st h nc ns else none
      | [] => none)
  | .invokestatic _ => ev_inv callf a b pc L st h nc ns
  | .invokevirtual _ => (match st.drop (b - 1) with
      | r :: _ => (match ev_o h r with
        | some x => bif Nat.beq x.1 t && Nat.blt 0 b then ev_inv callf a b pc L st h nc ns else none
        | none => none)
      | [] => none)
  | _ => ev_stH nr dfl i a b t pc L st h nc ns
/-! constants, static fields, rows copied, made strings: further rules -/
def ev_isK (x : Nat) : Bool := Nat.ble 92233720368547758080 x && Nat.blt x 110680464442257309696
def ev_isA (x : Nat) : Bool := Nat.ble 110680464442257309696 x && Nat.blt x 129127208515966861312
def ev_isX (x : Nat) : Bool := Nat.beq x 129127208515966861312
noncomputable def ev_cpN (A B dp sp n : Nat) : Nat := Nat.rec A (fun i ih => ev_up ih (dp + i) (ev_at B (sp + i))) n
noncomputable def ev_all8 (B sp n : Nat) : Bool := Nat.rec true (fun i ih => ih && Nat.beq (ev_b8 (ev_at B (sp + i))) (ev_at B (sp + i))) n
def ev_oOrL (x y : Nat) : Nat := 18446744073709551616 + ((lN (x - 18446744073709551616)) ||| (lN (y - 18446744073709551616))).toBitVec.toNat
def ev_oShlL (x y : Nat) : Nat := 18446744073709551616 + ((lN (x - 18446744073709551616)) <<< ((nI y).toInt64 &&& 63)).toBitVec.toNat
def ev_oNegL (x : Nat) : Nat := 18446744073709551616 + (-(lN (x - 18446744073709551616))).toBitVec.toNat
def ev_oDivL (x y : Nat) : Nat := 18446744073709551616 + ((lN (x - 18446744073709551616)) / (lN (y - 18446744073709551616))).toBitVec.toNat
def ev_oRemL (x y : Nat) : Nat := 18446744073709551616 + ((lN (x - 18446744073709551616)) - (lN (x - 18446744073709551616)) / (lN (y - 18446744073709551616)) * (lN (y - 18446744073709551616))).toBitVec.toNat
def ev_oDiv (x y : Nat) : Nat := ((nI x) / (nI y)).toBitVec.toNat
def ev_oRem (x y : Nat) : Nat := ((nI x) - (nI x) / (nI y) * (nI y)).toBitVec.toNat
def ev_oShrL (x y : Nat) : Nat := 18446744073709551616 + ((lN (x - 18446744073709551616)) >>> ((nI y).toInt64 &&& 63)).toBitVec.toNat
def ev_ldK (d n pc : Nat) (L st : List Nat) : Option ev_F := match L[n]? with
  | some x => bif ev_isK x || (ev_isA x || ev_isX x) then some (pc + d, L, x :: st) else none
  | none => none
/-- a row of bytes copied into another: of a constant, or of ours -/
noncomputable def ev_cpy (nr : Nat) (dfl : Nat → Nat) (pc : Nat) (L st : List Nat) (h : ev_H) (nc ns : Nat) : Option ev_G := match st with
  | n :: dp :: d :: sp :: s0 :: st' => (match ev_o h d with
    | some x => bif Nat.beq x.1 1001 && (Nat.ble nr (d - 36893488147419103232) && (Nat.ble (dp + n) x.2.1 && (Nat.blt x.2.1 2147483648 && Nat.ble (ev_cat st') 8))) then
        (bif ev_isA s0 then
          (bif Nat.ble (sp + n) (dfl (3000 + (s0 - 110680464442257309696))) && (Nat.blt (dfl (3000 + (s0 - 110680464442257309696))) 2147483648 && ev_all8 (dfl (2000 + (s0 - 110680464442257309696))) sp n) then
            some ((pc + 3, L, st'), h.set (d - 36893488147419103232) (x.1, x.2.1, ev_cpN x.2.2 (dfl (2000 + (s0 - 110680464442257309696))) dp sp n), nc, ns) else none)
        else (match ev_o h s0 with
          | some y => bif Nat.beq y.1 1001 && (Nat.ble nr (s0 - 36893488147419103232) && (Nat.ble (sp + n) y.2.1 && (Nat.blt y.2.1 2147483648 && ev_all8 y.2.2 sp n))) then
              some ((pc + 3, L, st'), h.set (d - 36893488147419103232) (x.1, x.2.1, ev_cpN x.2.2 y.2.2 dp sp n), nc, ns) else none
          | none => none))
      else none
    | none => none)
  | _ => none
/-- the greater or the lesser of two ints -/
def ev_mm (mx : Bool) (pc : Nat) (L st : List Nat) (h : ev_H) (nc ns : Nat) : Option ev_G := match st with
  | y :: x :: r => bif ev_isI y && (ev_isI x && Nat.ble (ev_cat r) 8) then some ((pc + 3, L, (bif mx then (bif Nat.blt (ev_s x) (ev_s y) then y else x) else (bif Nat.blt (ev_s y) (ev_s x) then y else x)) :: r), h, nc, ns) else none
  | _ => none
noncomputable def ev_stK (nr : Nat) (dfl : Nat → Nat) (callf : Nat → List Nat → ev_H → Option ev_A) (i : Instr) (a b t pc : Nat) (L st : List Nat) (h : ev_H) (nc ns : Nat) : Option ev_G := match i with
  | .aload n => (match ev_ldK 2 n pc L st with
    | some f => some (f, h, nc, ns)
    | none => none)
  | .aload_n k => (match ev_ldK 1 k.val pc L st with
    | some f => some (f, h, nc, ns)
    | none => none)
  | .getfield _ => (match st with
    | r :: st' => bif ev_isK r && Nat.beq a 1 then (bif Nat.beq b 0 then some ((pc + 3, L, (r + 18446744073709551616) :: st'), h, nc, ns) else bif Nat.beq b 1 then some ((pc + 3, L, 0 :: st'), h, nc, ns) else none) else none
    | _ => none)
  | .arraylength => (match st with
    | r :: st' => bif ev_isA r && Nat.blt (dfl (3000 + (r - 110680464442257309696))) 2147483648 then some ((pc + 1, L, dfl (3000 + (r - 110680464442257309696)) :: st'), h, nc, ns) else none
    | _ => none)
  | .baload => (match st with
    | j :: r :: st' => bif ev_isA r && (ev_isI j && (Nat.blt j (dfl (3000 + (r - 110680464442257309696))) && (Nat.blt (dfl (3000 + (r - 110680464442257309696))) 2147483648 && ev_isI (ev_at (dfl (2000 + (r - 110680464442257309696))) j)))) then some ((pc + 1, L, ev_at (dfl (2000 + (r - 110680464442257309696))) j :: st'), h, nc, ns) else none
    | _ => none)
  | .ldc _ => bif ev_isK a && Nat.blt (a - 92233720368547758080) (dfl 5000) then some ((pc + 2, L, a :: st), h, nc, ns) else none
  | .getstatic _ => bif Nat.beq a 1 || ev_isX a then some ((pc + 3, L, a :: st), h, nc, ns) else none
  | .ishr => (match st with
    | y :: x :: r => bif Nat.beq y 0 && ev_isI x then some ((pc + 1, L, x :: r), h, nc, ns) else none
    | _ => none)
  | .lshr => (match st with
    | y :: x :: r => bif ev_isI y && ev_isL x then some ((pc + 1, L, ev_oShrL x y :: r), h, nc, ns) else none
    | _ => none)
  | .lor => (match st with
    | y :: x :: r => bif ev_isL y && (ev_isL x) then some ((pc + 1, L, ev_oOrL x y :: r), h, nc, ns) else none
    | _ => none)
  | .lshl => (match st with
    | y :: x :: r => bif ev_isI y && (ev_isL x) then some ((pc + 1, L, ev_oShlL x y :: r), h, nc, ns) else none
    | _ => none)
  | .ldiv => (match st with
    | y :: x :: r => bif ev_isL y && (ev_isL x && !(Nat.beq y 18446744073709551616)) then some ((pc + 1, L, ev_oDivL x y :: r), h, nc, ns) else none
    | _ => none)
  | .lrem => (match st with
    | y :: x :: r => bif ev_isL y && (ev_isL x && !(Nat.beq y 18446744073709551616)) then some ((pc + 1, L, ev_oRemL x y :: r), h, nc, ns) else none
    | _ => none)
  | .idiv => (match st with
    | y :: x :: r => bif ev_isI y && (ev_isI x && !(Nat.beq y 0)) then some ((pc + 1, L, ev_oDiv x y :: r), h, nc, ns) else none
    | _ => none)
  | .irem => (match st with
    | y :: x :: r => bif ev_isI y && (ev_isI x && !(Nat.beq y 0)) then some ((pc + 1, L, ev_oRem x y :: r), h, nc, ns) else none
    | _ => none)
  | .lneg => (match st with
    | x :: r => bif ev_isL x then some ((pc + 1, L, ev_oNegL x :: r), h, nc, ns) else none
    | _ => none)
  | .lookupswitch dflt ps => (match st with
    | x :: r => bif ev_isI x && (ps.toList.zip (ps.toList.drop 1)).all (fun (a, next) => a.1 < next.1) then (match ev_sw pc (Op.lookupswitch.offset ps.toList dflt (ev_si x)) L r with
      | some f => some (f, h, nc, ns)
      | none => none) else none
    | _ => none)
  | .invokevirtual _ => (match st.drop (b - 1) with
    | r :: _ => bif ev_isK r && (Nat.beq t 1 && Nat.blt 0 b) then ev_inv callf a b pc L st h nc ns else none
    | [] => none)
  | .invokestatic _ => bif Nat.ble 997 a && Nat.ble a 999 then (bif Nat.beq a 999 then ev_cpy nr dfl pc L st h nc ns else ev_mm (Nat.beq a 997) pc L st h nc ns) else none
  | .new _ => bif Nat.beq t 1 && Nat.blt h.length 1000000 then some ((pc + 3, L, (36893488147419103232 + h.length) :: st), h ++ [(1, 2, dfl 1)], nc + 1, ns + b) else none
  | .anewarray _ => (match st with
    | n :: st' => bif Nat.ble n 1000000 && Nat.blt h.length 1000000 then some ((pc + 3, L, (36893488147419103232 + h.length) :: st'), h ++ [(1020, n, 0)], nc + 1, ns + n) else none
    | _ => none)
  | .aastore => (match st with
    | v :: j :: r :: st' => (match ev_o h v with
      | some x => bif Nat.beq x.1 a && Nat.ble nr (v - 36893488147419103232) then (match ev_wr 1020 nr h j r v with
        | some h' => some ((pc + 1, L, st'), h', nc, ns)
        | none => none) else none
      | none => none)
    | _ => none)
  | _ => none
/-- rows that these rules alone speak of -/
def ev_pre (i : Instr) (a t : Nat) : Bool := match i with
  | .invokestatic _ => Nat.ble 997 a && Nat.ble a 999
  | .new _ => Nat.beq t 1
  | _ => false
noncomputable def ev_stepX (nr : Nat) (dfl : Nat → Nat) (callf : Nat → List Nat → ev_H → Option ev_A) (i : Instr) (a b t pc : Nat) (L st : List Nat) (h : ev_H) (nc ns : Nat) : Option ev_G := bif ev_pre i a t then ev_stK nr dfl callf i a b t pc L st h nc ns else match ev_step nr dfl callf i a b t pc L st h nc ns with
  | some g => some g
  | none => ev_stK nr dfl callf i a b t pc L st h nc ns
theorem ev_stepX_of {nr : Nat} {dfl : Nat → Nat} {callf : Nat → List Nat → ev_H → Option ev_A} {i : Instr} {a b t pc nc ns : Nat} {L st : List Nat} {h : ev_H} {g : ev_G} (hp : ev_pre i a t = false) (hg : ev_step nr dfl callf i a b t pc L st h nc ns = some g) : ev_stepX nr dfl callf i a b t pc L st h nc ns = some g := by
  unfold ev_stepX
  rw [hp, cond_false, hg]
theorem ev_stepX_or {nr : Nat} {dfl : Nat → Nat} {callf : Nat → List Nat → ev_H → Option ev_A} {i : Instr} {a b t pc nc ns : Nat} {L st : List Nat} {h : ev_H} {g : ev_G} (hg : ev_stepX nr dfl callf i a b t pc L st h nc ns = some g) : (ev_pre i a t = false ∧ ev_step nr dfl callf i a b t pc L st h nc ns = some g) ∨ ev_stK nr dfl callf i a b t pc L st h nc ns = some g := by
  unfold ev_stepX at hg
  cases hp : ev_pre i a t
  · rw [hp, cond_false] at hg
    cases hs : ev_step nr dfl callf i a b t pc L st h nc ns with
    | some g0 => rw [hs] at hg; exact Or.inl ⟨rfl, hg⟩
    | none => rw [hs] at hg; exact Or.inr hg
  · rw [hp, cond_true] at hg
    exact Or.inr hg
noncomputable def ev_run (nr : Nat) (dfl : Nat → Nat) (callf : Nat → List Nat → ev_H → Option ev_A) (code : List (List ev_I)) (rt : Option FieldType) (n : Nat) : Nat → List Nat → List Nat → ev_H → Nat → Nat → Option ev_A :=
  Nat.rec (fun _ _ _ _ _ _ => none) (fun _ ih pc L st h nc ns => match ev_ft code pc with
    | some x => (match ev_end x.2.1 rt st with
      | some r => some (r, h, nc, ns)
      | none => (match ev_stepX nr dfl callf x.2.1 x.2.2.2.1 x.2.2.2.2.1 x.2.2.2.2.2.1 pc L st h nc ns with
        | some g => bif Nat.ble nc g.2.2.1 && Nat.ble ns g.2.2.2 then ih g.1.1 g.1.2.1 g.1.2.2 g.2.1 g.2.2.1 g.2.2.2 else none
        | none => none))
    | none => none) n
def ev_ent : List Nat → List Nat
  | [] => []
  | x :: l => bif ev_isL x then x :: 73786976294838206464 :: ev_ent l else x :: ev_ent l
noncomputable def ev_met (nr : Nat) (dfl : Nat → Nat) (mt : List ev_Me) (d : Nat) : Nat → List Nat → ev_H → Option ev_A :=
  Nat.rec (fun _ _ _ => none) (fun _ ih mid as h => match mt[mid]? with
    | some m => bif Nat.ble (ev_ent as).length m.2.2.1 then ev_run nr dfl ih m.2.2.2.2 m.2.2.2.1 10000000 0 (ev_ent as ++ List.replicate (m.2.2.1 - (ev_ent as).length) 73786976294838206464) [] h 0 0 else none
    | none => none) d
theorem ev_run_s (nr : Nat) (dfl : Nat → Nat) (callf : Nat → List Nat → ev_H → Option ev_A) (code : List (List ev_I)) (rt : Option FieldType) (n : Nat) (pc : Nat) (L st : List Nat) (h : ev_H) (nc ns : Nat) : ev_run nr dfl callf code rt (n + 1) pc L st h nc ns = match ev_ft code pc with
    | some x => (match ev_end x.2.1 rt st with
      | some r => some (r, h, nc, ns)
      | none => (match ev_stepX nr dfl callf x.2.1 x.2.2.2.1 x.2.2.2.2.1 x.2.2.2.2.2.1 pc L st h nc ns with
        | some g => bif Nat.ble nc g.2.2.1 && Nat.ble ns g.2.2.2 then ev_run nr dfl callf code rt n g.1.1 g.1.2.1 g.1.2.2 g.2.1 g.2.2.1 g.2.2.2 else none
        | none => none))
    | none => none := rfl
theorem ev_ft_ok {code : List (List ev_I)} {pc : Nat} {x : ev_I} (h : ev_ft code pc = some x) : (∃ l ∈ code, x ∈ l) ∧ x.1 = pc := by
  unfold ev_ft at h
  split at h
  · rename_i l hl
    exact ⟨⟨l, List.mem_of_getElem? hl, List.mem_of_find?_eq_some h⟩, Nat.eq_of_beq_eq_true (List.find?_some (p := fun x : ev_I => Nat.beq x.1 pc) h)⟩
  · cases h
theorem ev_cat_ok {ka : ev_KA} {ads : List Nat} : ∀ {st : List Nat} {vs : List Value}, ev_S ka ads st vs → (vs.map fun v => v.category).sum = ev_cat st
  | [], [], _ => rfl
  | x :: st, v :: vs, h => by
    have ih := ev_cat_ok h.2
    show v.category + (vs.map fun v => v.category).sum = (bif ev_isL x then 2 else 1) + ev_cat st
    rw [ih]
    cases hq : ev_isL x
    · rw [h.1.cat1 hq]; rfl
    · rw [(h.1.l hq).1]; rfl
  | [], _ :: _, h => h.elim
  | _ :: _, [], h => h.elim
/-- a method's arguments in its locals -/
theorem ev_ent_len {ka : ev_KA} {ads : List Nat} : ∀ {as : List Nat} {vs : List Value}, ev_S ka ads as vs → (lg_sl vs).length = (ev_ent as).length
  | [], [], _ => rfl
  | x :: as, v :: vs, h => by
    have ih := ev_ent_len h.2
    have e : lg_sl (v :: vs) = (if v.category = 2 then [.val v, .second] else [.val v]) ++ lg_sl vs := rfl
    rw [e]
    cases hq : ev_isL x
    · rw [h.1.cat1 hq]
      simp only [ev_ent, hq, cond_false]
      simp [ih]
    · rw [(h.1.l hq).1]
      simp only [ev_ent, hq, cond_true]
      simp [ih, Value.category]
  | [], _ :: _, h => h.elim
  | _ :: _, [], h => h.elim
theorem ev_ent_in {ka : ev_KA} {ads : List Nat} : ∀ {as : List Nat} {vs : List Value} (k0 : Nat), ev_S ka ads as vs → ∀ i x, (ev_ent as)[i]? = some x → x = 73786976294838206464 ∨ ∃ v, (k0 + i, v) ∈ lv_args k0 vs ∧ ev_v ka ads x v
  | [], [], k0, _, i, x, h => by simp [ev_ent] at h
  | y :: as, v :: vs, k0, hS, i, x, h => by
    cases hq : ev_isL y
    · simp only [ev_ent, hq, cond_false] at h
      have hc := hS.1.cat1 hq
      cases i with
      | zero =>
        simp at h
        subst h
        exact Or.inr ⟨v, List.mem_cons_self, hS.1⟩
      | succ i =>
        simp at h
        rcases ev_ent_in (k0 + 1) hS.2 i x h with g | ⟨w, g1, g2⟩
        · exact Or.inl g
        · refine Or.inr ⟨w, List.mem_cons_of_mem _ ?_, g2⟩
          rw [hc, if_neg (by decide)]
          rw [show k0 + (i + 1) = k0 + 1 + i by omega]
          exact g1
    · simp only [ev_ent, hq, cond_true] at h
      have hc : v.category = 2 := by rw [(hS.1.l hq).1]; rfl
      cases i with
      | zero =>
        simp at h
        subst h
        exact Or.inr ⟨v, List.mem_cons_self, hS.1⟩
      | succ i =>
        cases i with
        | zero =>
          simp at h
          exact Or.inl h.symm
        | succ i =>
          simp at h
          rcases ev_ent_in (k0 + 2) hS.2 i x h with g | ⟨w, g1, g2⟩
          · exact Or.inl g
          · refine Or.inr ⟨w, List.mem_cons_of_mem _ ?_, g2⟩
            rw [hc, if_pos rfl]
            rw [show k0 + (i + 1 + 1) = k0 + 2 + i by omega]
            exact g1
  | [], _ :: _, _, h, _, _, _ => h.elim
  | _ :: _, [], _, h, _, _, _ => h.elim
theorem ev_entry {ka : ev_KA} {ads : List Nat} {as : List Nat} {vs : List Value} {n : Nat} (hS : ev_S ka ads as vs) (hn : (ev_ent as).length ≤ n) : ev_L ka ads n (ev_ent as ++ List.replicate (n - (ev_ent as).length) 73786976294838206464) ((lg_sl vs ++ List.replicate (n - (lg_sl vs).length) Slot.unset).toArray) := by
  refine ⟨by simp; omega, lv_args 0 vs, lv_entry vs (ev_ent_len hS ▸ hn), fun i x hx => ?_⟩
  by_cases hi : i < (ev_ent as).length
  · rw [List.getElem?_append_left hi] at hx
    rcases ev_ent_in 0 hS i x hx with g | ⟨v, g1, g2⟩
    · exact Or.inl g
    · exact Or.inr ⟨v, by simpa using g1, g2⟩
  · rw [List.getElem?_append_right (by omega), List.getElem?_replicate] at hx
    split at hx
    · cases hx; exact Or.inl rfl
    · cases hx
theorem ev_S.rev {ka : ev_KA} {ads : List Nat} : ∀ {a b : List Nat} {va vb : List Value}, ev_S ka ads a va → ev_S ka ads b vb → ev_S ka ads (a.reverse ++ b) (va.reverse ++ vb)
  | [], _, [], _, _, h2 => h2
  | x :: a, b, v :: va, vb, h1, h2 => by
    rw [List.reverse_cons, List.reverse_cons, List.append_assoc, List.append_assoc]
    exact ev_S.rev h1.2 (show ev_S ka ads (x :: b) (v :: vb) from ⟨h1.1, h2⟩)
  | [], _, _ :: _, _, h, _ => h.elim
  | _ :: _, _, [], _, h, _ => h.elim
theorem ev_S.reverse {ka : ev_KA} {ads : List Nat} {a : List Nat} {va : List Value} (h : ev_S ka ads a va) : ev_S ka ads a.reverse va.reverse := by
  have := ev_S.rev h (show ev_S ka ads [] [] from trivial)
  simpa using this
/-- a stack in two -/
theorem ev_S.split {ka : ev_KA} {ads : List Nat} : ∀ (n : Nat) {st : List Nat} {vs : List Value}, ev_S ka ads st vs → n ≤ st.length → vs = vs.take n ++ vs.drop n ∧ ev_S ka ads (st.take n) (vs.take n) ∧ ev_S ka ads (st.drop n) (vs.drop n) ∧ (vs.take n).length = n
  | 0, st, vs, h, _ => ⟨by simp, trivial, h, by simp⟩
  | n + 1, [], _, _, hn => by simp at hn
  | n + 1, x :: st, [], h, _ => h.elim
  | n + 1, x :: st, v :: vs, h, hn => by
    obtain ⟨h1, h2, h3, h4⟩ := ev_S.split n h.2 (by simpa using hn)
    exact ⟨by simp, ⟨h.1, h2⟩, h3, by simp [h4]⟩
