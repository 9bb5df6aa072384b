/-! ===== 03: the evaluator's frame instructions are the machine's ===== -/
def ev_len (i : Instr) (n0 : Nat) : Nat := match i with
  | .iload _ | .lload _ | .aload _ | .istore _ | .lstore _ | .astore _ | .bipush _ | .ldc _ | .newarray _ => 2
  | .tableswitch _ _ _ _ | .lookupswitch _ _ => n0
  | .sipush _ | .iinc _ _ | .goto _ | .ifCond _ _ | .if_icmp _ _ | .ifnull _ | .ifnonnull _ | .ldc_w _ | .ldc2_w _ | .getfield _ | .putfield _ | .getstatic _ | .new _ | .anewarray _ | .invokevirtual _ | .invokespecial _ | .invokestatic _ | .checkcast _ => 3
  | _ => 1
theorem ev_bI_ok {ka : ev_KA} {ads : List Nat} {pc : Nat} {L st : List Nat} {f : Nat → Nat → Nat} {pc' : Nat} {L' st' : List Nat} {vs : List Value} (hs : ev_binI pc L st f = some (pc', L', st')) (hS : ev_S ka ads st vs) :
    ∃ x y r vr, vs = .int (nI y) :: .int (nI x) :: vr ∧ x < 4294967296 ∧ y < 4294967296 ∧ pc' = pc + 1 ∧ L' = L ∧ st' = f x y :: r ∧ ev_S ka ads r vr := by
  unfold ev_binI at hs
  split at hs
  · rename_i y x r
    cases hq : (ev_isI y && ev_isI x)
    · rw [hq] at hs; cases hs
    · rw [hq] at hs
      simp only [Bool.and_eq_true] at hq
      simp only [cond_true, Option.some.injEq, Prod.mk.injEq] at hs
      obtain ⟨e1, e2, e3⟩ := hs
      obtain ⟨v1, r1, rfl, h1, h2⟩ := hS.cons
      obtain ⟨v2, r2, rfl, h3, h4⟩ := h2.cons
      obtain ⟨rfl, hy⟩ := h1.i hq.1
      obtain ⟨rfl, hx⟩ := h3.i hq.2
      exact ⟨x, y, r, r2, rfl, hx, hy, e1.symm, e2.symm, e3.symm, h4⟩
  · cases hs
theorem ev_bL_ok {ka : ev_KA} {ads : List Nat} {pc : Nat} {L st : List Nat} {f : Nat → Nat → Nat} {pc' : Nat} {L' st' : List Nat} {vs : List Value} (hs : ev_binL pc L st f = some (pc', L', st')) (hS : ev_S ka ads st vs) :
    ∃ x y r vr, vs = .long (lN y) :: .long (lN x) :: vr ∧ x < 18446744073709551616 ∧ y < 18446744073709551616 ∧ pc' = pc + 1 ∧ L' = L ∧ st' = f x y :: r ∧ ev_S ka ads r vr := by
  unfold ev_binL at hs
  split at hs
  · rename_i y x r
    cases hq : (ev_isL y && ev_isL x)
    · rw [hq] at hs; cases hs
    · rw [hq] at hs
      simp only [Bool.and_eq_true] at hq
      simp only [cond_true, Option.some.injEq, Prod.mk.injEq] at hs
      obtain ⟨e1, e2, e3⟩ := hs
      obtain ⟨v1, r1, rfl, h1, h2⟩ := hS.cons
      obtain ⟨v2, r2, rfl, h3, h4⟩ := h2.cons
      obtain ⟨rfl, hy⟩ := h1.l hq.1
      obtain ⟨rfl, hx⟩ := h3.l hq.2
      exact ⟨_, _, r, r2, rfl, hx, hy, e1.symm, e2.symm, e3.symm, h4⟩
  · cases hs
theorem ev_uI_ok {ka : ev_KA} {ads : List Nat} {pc : Nat} {L st : List Nat} {f : Nat → Nat} {pc' : Nat} {L' st' : List Nat} {vs : List Value} (hs : ev_unI pc L st f = some (pc', L', st')) (hS : ev_S ka ads st vs) :
    ∃ x r vr, vs = .int (nI x) :: vr ∧ x < 4294967296 ∧ pc' = pc + 1 ∧ L' = L ∧ st' = f x :: r ∧ ev_S ka ads r vr := by
  unfold ev_unI at hs
  split at hs
  · rename_i x r
    cases hq : ev_isI x
    · rw [hq] at hs; cases hs
    · rw [hq] at hs
      simp only [cond_true, Option.some.injEq, Prod.mk.injEq] at hs
      obtain ⟨e1, e2, e3⟩ := hs
      obtain ⟨v1, r1, rfl, h1, h2⟩ := hS.cons
      obtain ⟨rfl, hx⟩ := h1.i hq
      exact ⟨x, r, r1, rfl, hx, e1.symm, e2.symm, e3.symm, h2⟩
  · cases hs
theorem ev_ldI_ok {ka : ev_KA} {ads : List Nat} {nL d n pc : Nat} {L st : List Nat} {pc' : Nat} {L' st' : List Nat} {ls : Array Slot} (hs : ev_ldI d n pc L st = some (pc', L', st')) (hL : ev_L ka ads nL L ls) :
    ∃ x, ls[n]? = some (.val (.int (nI x))) ∧ x < 4294967296 ∧ pc' = pc + d ∧ L' = L ∧ st' = x :: st := by
  unfold ev_ldI at hs
  split at hs
  · rename_i x hx0
    cases hq : ev_isI x
    · rw [hq] at hs; cases hs
    · rw [hq] at hs
      simp only [cond_true, Option.some.injEq, Prod.mk.injEq] at hs
      obtain ⟨e1, e2, e3⟩ := hs
      have := ev_isI_s hq
      obtain ⟨v, h1, h2⟩ := hL.get hx0 (by omega)
      obtain ⟨rfl, hx⟩ := h2.i hq
      exact ⟨x, h1, hx, e1.symm, e2.symm, e3.symm⟩
  · cases hs
theorem ev_ldL_ok {ka : ev_KA} {ads : List Nat} {nL d n pc : Nat} {L st : List Nat} {pc' : Nat} {L' st' : List Nat} {ls : Array Slot} (hs : ev_ldL d n pc L st = some (pc', L', st')) (hL : ev_L ka ads nL L ls) :
    ∃ x, ls[n]? = some (.val (.long (lN (x - 18446744073709551616)))) ∧ ev_v ka ads x (.long (lN (x - 18446744073709551616))) ∧ pc' = pc + d ∧ L' = L ∧ st' = x :: st := by
  unfold ev_ldL at hs
  split at hs
  · rename_i x hx0
    cases hq : ev_isL x
    · rw [hq] at hs; cases hs
    · rw [hq] at hs
      simp only [cond_true, Option.some.injEq, Prod.mk.injEq] at hs
      obtain ⟨e1, e2, e3⟩ := hs
      have := ev_isL_s hq
      obtain ⟨v, h1, h2⟩ := hL.get hx0 (by omega)
      obtain ⟨rfl, hx⟩ := h2.l hq
      exact ⟨x, h1, h2, e1.symm, e2.symm, e3.symm⟩
  · cases hs
theorem ev_ldR_ok {ka : ev_KA} {ads : List Nat} {nL d n pc : Nat} {L st : List Nat} {pc' : Nat} {L' st' : List Nat} {ls : Array Slot} (hs : ev_ldR d n pc L st = some (pc', L', st')) (hL : ev_L ka ads nL L ls) :
    ∃ x v, ls[n]? = some (.val v) ∧ ev_v ka ads x v ∧ (v = .null ∨ ∃ q, v = .ref q) ∧ pc' = pc + d ∧ L' = L ∧ st' = x :: st := by
  unfold ev_ldR at hs
  split at hs
  · rename_i x hx0
    cases hq : (ev_isR x || ev_isN x)
    · rw [hq] at hs; cases hs
    · rw [hq] at hs
      simp only [cond_true, Option.some.injEq, Prod.mk.injEq] at hs
      obtain ⟨e1, e2, e3⟩ := hs
      rw [Bool.or_eq_true] at hq
      rcases hq with hq | hq
      · have := ev_isR_s hq
        obtain ⟨v, h1, h2⟩ := hL.get hx0 (by omega)
        obtain ⟨q, _, rfl⟩ := h2.r hq
        exact ⟨x, _, h1, h2, Or.inr ⟨q, rfl⟩, e1.symm, e2.symm, e3.symm⟩
      · have := Nat.eq_of_beq_eq_true hq
        obtain ⟨v, h1, h2⟩ := hL.get hx0 (by omega)
        obtain rfl := h2.n hq
        exact ⟨x, _, h1, h2, Or.inl rfl, e1.symm, e2.symm, e3.symm⟩
  · cases hs
theorem ev_stI_ok {ka : ev_KA} {ads : List Nat} {nL d n pc : Nat} {L st : List Nat} {pc' : Nat} {L' st' : List Nat} {vs : List Value} (hlen : L.length = nL) (hs : ev_stI d n pc L st = some (pc', L', st')) (hS : ev_S ka ads st vs) :
    ∃ x r vr, vs = .int (nI x) :: vr ∧ x < 4294967296 ∧ n < nL ∧ pc' = pc + d ∧ L' = ev_set1 L n x ∧ st' = r ∧ ev_S ka ads r vr := by
  unfold ev_stI at hs
  split at hs
  · rename_i x r
    cases hq : (ev_isI x && Nat.blt n L.length)
    · rw [hq] at hs; cases hs
    · rw [hq] at hs
      simp only [Bool.and_eq_true] at hq
      simp only [cond_true, Option.some.injEq, Prod.mk.injEq] at hs
      obtain ⟨e1, e2, e3⟩ := hs
      obtain ⟨v1, r1, rfl, h1, h2⟩ := hS.cons
      obtain ⟨rfl, hx⟩ := h1.i hq.1
      exact ⟨x, r, r1, rfl, hx, hlen ▸ Nat.blt_eq.mp hq.2, e1.symm, e2.symm, e3.symm, h2⟩
  · cases hs
theorem ev_stL_ok {ka : ev_KA} {ads : List Nat} {nL d n pc : Nat} {L st : List Nat} {pc' : Nat} {L' st' : List Nat} {vs : List Value} (hlen : L.length = nL) (hs : ev_stL d n pc L st = some (pc', L', st')) (hS : ev_S ka ads st vs) :
    ∃ x r vr, vs = .long (lN (x - 18446744073709551616)) :: vr ∧ ev_v ka ads x (.long (lN (x - 18446744073709551616))) ∧ n + 1 < nL ∧ pc' = pc + d ∧ L' = ev_set2 L n x ∧ st' = r ∧ ev_S ka ads r vr := by
  unfold ev_stL at hs
  split at hs
  · rename_i x r
    cases hq : (ev_isL x && Nat.blt (n + 1) L.length)
    · rw [hq] at hs; cases hs
    · rw [hq] at hs
      simp only [Bool.and_eq_true] at hq
      simp only [cond_true, Option.some.injEq, Prod.mk.injEq] at hs
      obtain ⟨e1, e2, e3⟩ := hs
      obtain ⟨v1, r1, rfl, h1, h2⟩ := hS.cons
      obtain ⟨rfl, hx⟩ := h1.l hq.1
      exact ⟨x, r, r1, rfl, h1, hlen ▸ Nat.blt_eq.mp hq.2, e1.symm, e2.symm, e3.symm, h2⟩
  · cases hs
theorem ev_stR_ok {ka : ev_KA} {ads : List Nat} {nL d n pc : Nat} {L st : List Nat} {pc' : Nat} {L' st' : List Nat} {vs : List Value} (hlen : L.length = nL) (hs : ev_stR d n pc L st = some (pc', L', st')) (hS : ev_S ka ads st vs) :
    ∃ x v r vr, vs = v :: vr ∧ ev_v ka ads x v ∧ (v = .null ∨ ∃ q, v = .ref q) ∧ n < nL ∧ pc' = pc + d ∧ L' = ev_set1 L n x ∧ st' = r ∧ ev_S ka ads r vr := by
  unfold ev_stR at hs
  split at hs
  · rename_i x r
    cases hq : ((ev_isR x || ev_isN x) && Nat.blt n L.length)
    · rw [hq] at hs; cases hs
    · rw [hq] at hs
      simp only [Bool.and_eq_true, Bool.or_eq_true] at hq
      simp only [cond_true, Option.some.injEq, Prod.mk.injEq] at hs
      obtain ⟨e1, e2, e3⟩ := hs
      obtain ⟨v1, r1, rfl, h1, h2⟩ := hS.cons
      have hn := Nat.blt_eq.mp hq.2
      rcases hq.1 with hq | hq
      · obtain ⟨q, _, rfl⟩ := h1.r hq
        exact ⟨x, _, r, r1, rfl, h1, Or.inr ⟨q, rfl⟩, hlen ▸ hn, e1.symm, e2.symm, e3.symm, h2⟩
      · obtain rfl := h1.n hq
        exact ⟨x, _, r, r1, rfl, h1, Or.inl rfl, hlen ▸ hn, e1.symm, e2.symm, e3.symm, h2⟩
  · cases hs
theorem ev_bif2 {α : Type} {b : Bool} {x y : α} (h : (bif b then some x else none) = some y) : b = true ∧ x = y := by
  cases b
  · cases h
  · exact ⟨rfl, Option.some.inj h⟩
theorem ev_not_blt {a b : Nat} (h : Nat.blt a b = false) : b ≤ a := by
  rcases Nat.lt_or_ge a b with q | q
  · rw [Nat.blt_eq.mpr q] at h; cases h
  · exact q
theorem ev_not_ble {a b : Nat} (h : Nat.ble a b = false) : b < a := by
  rcases Nat.lt_or_ge b a with q | q
  · exact q
  · rw [Nat.ble_eq_true_of_le q] at h; cases h
theorem ev_not_beq {a b : Nat} (h : Nat.beq a b = false) : a ≠ b := by
  intro q
  rw [q, Nat.beq_refl] at h; cases h
theorem ev_s0 : ev_s 0 = 2147483648 := rfl
section EVA
variable {p : Program} {l : Launch} {e : Env} {R : Room} {s : State} {m : MethodId} {args : Array Value} {below : List Frame} {meth : Method} {c : Code} {H : Heap} {locs : List Loc} {cells slots : Nat} {Q : State → Prop} {cc : ByteArray}
theorem ev_if_ok (hx : p.tables.exec = Jvm.exec) (hb : c.code = cc) {cd : Jvm.ClassFile.Cond} {off : Int} {x pc a : Nat} {ls : Array Slot} {vr : List Value} (hd : decode cc pc = .ok (.ifCond cd off, 3)) (ht : (pc : Int) + off = (a : Int)) (hx2 : x < 4294967296)
    (kk : W p l e R s m args below meth c H locs cells slots Q (F0 m (bif ev_if cd x then a else pc + 3) ls vr)) : W p l e R s m args below meth c H locs cells slots Q (F0 m pc ls (.int (nI x) :: vr)) := by
  have z0 : (0 : Int32) = nI 0 := rfl
  cases hq : ev_if cd x <;> rw [hq] at kk <;> simp only [cond_true, cond_false] at kk <;> cases cd <;> simp only [ev_if] at hq
  · exact lv_if_eq hx hb hd ht (fun q => absurd ((ev_eqI hx2 (by decide)).mp (z0 ▸ q)) (ev_not_beq hq)) (fun _ => kk)
  · refine lv_if_ne hx hb hd ht (fun q => absurd ?_ q) (fun _ => kk)
    have hq := Bool.not_eq_false' .. ▸ hq
    rw [Nat.eq_of_beq_eq_true hq]; rfl
  · exact lv_if_lt hx hb hd ht (fun q => by rw [z0, ev_ltI hx2 (by decide)] at q; have := ev_not_blt hq; rw [ev_s0] at q; omega) (fun _ => kk)
  · exact lv_if_ge hx hb hd ht (fun q => by rw [z0, ev_leI (by decide) hx2] at q; have := ev_not_ble hq; rw [ev_s0] at q; omega) (fun _ => kk)
  · exact lv_if_gt hx hb hd ht (fun q => by rw [z0, ev_ltI (by decide) hx2] at q; have := ev_not_blt hq; rw [ev_s0] at q; omega) (fun _ => kk)
  · exact lv_if_le hx hb hd ht (fun q => by rw [z0, ev_leI hx2 (by decide)] at q; have := ev_not_ble hq; rw [ev_s0] at q; omega) (fun _ => kk)
  · refine lv_if_eq hx hb hd ht (fun _ => kk) (fun q => absurd ?_ q)
    rw [Nat.eq_of_beq_eq_true hq]; rfl
  · refine lv_if_ne hx hb hd ht (fun _ => kk) (fun q => absurd ((ev_eqI hx2 (by decide)).mp (z0 ▸ q)) (ev_not_beq ?_))
    simpa using hq
  · exact lv_if_lt hx hb hd ht (fun _ => kk) (fun q => absurd (by rw [z0, ev_ltI hx2 (by decide), ev_s0]; exact Nat.blt_eq.mp hq) q)
  · exact lv_if_ge hx hb hd ht (fun _ => kk) (fun q => absurd (by rw [z0, ev_leI (by decide) hx2, ev_s0]; exact Nat.le_of_ble_eq_true hq) q)
  · exact lv_if_gt hx hb hd ht (fun _ => kk) (fun q => absurd (by rw [z0, ev_ltI (by decide) hx2, ev_s0]; exact Nat.blt_eq.mp hq) q)
  · exact lv_if_le hx hb hd ht (fun _ => kk) (fun q => absurd (by rw [z0, ev_leI hx2 (by decide), ev_s0]; exact Nat.le_of_ble_eq_true hq) q)
theorem ev_ic_ok (hx : p.tables.exec = Jvm.exec) (hb : c.code = cc) {cd : Jvm.ClassFile.Cond} {off : Int} {x y pc a : Nat} {ls : Array Slot} {vr : List Value} (hd : decode cc pc = .ok (.if_icmp cd off, 3)) (ht : (pc : Int) + off = (a : Int)) (hx2 : x < 4294967296) (hy2 : y < 4294967296)
    (kk : W p l e R s m args below meth c H locs cells slots Q (F0 m (bif ev_ic cd x y then a else pc + 3) ls vr)) : W p l e R s m args below meth c H locs cells slots Q (F0 m pc ls (.int (nI y) :: .int (nI x) :: vr)) := by
  cases hq : ev_ic cd x y <;> rw [hq] at kk <;> simp only [cond_true, cond_false] at kk <;> cases cd <;> simp only [ev_ic] at hq
  · exact lv_icmp_eq hx hb hd ht (fun q => absurd ((ev_eqI hx2 hy2).mp q) (ev_not_beq hq)) (fun _ => kk)
  · refine lv_icmp_ne hx hb hd ht (fun q => absurd ?_ q) (fun _ => kk)
    have hq := Bool.not_eq_false' .. ▸ hq
    rw [Nat.eq_of_beq_eq_true hq]
  · exact lv_icmp_lt hx hb hd ht (fun q => by rw [ev_ltI hx2 hy2] at q; have := ev_not_blt hq; omega) (fun _ => kk)
  · exact lv_icmp_ge hx hb hd ht (fun q => by rw [ev_leI hy2 hx2] at q; have := ev_not_ble hq; omega) (fun _ => kk)
  · exact lv_icmp_gt hx hb hd ht (fun q => by rw [ev_ltI hy2 hx2] at q; have := ev_not_blt hq; omega) (fun _ => kk)
  · exact lv_icmp_le hx hb hd ht (fun q => by rw [ev_leI hx2 hy2] at q; have := ev_not_ble hq; omega) (fun _ => kk)
  · refine lv_icmp_eq hx hb hd ht (fun _ => kk) (fun q => absurd ?_ q)
    rw [Nat.eq_of_beq_eq_true hq]
  · refine lv_icmp_ne hx hb hd ht (fun _ => kk) (fun q => absurd ((ev_eqI hx2 hy2).mp q) (ev_not_beq ?_))
    simpa using hq
  · exact lv_icmp_lt hx hb hd ht (fun _ => kk) (fun q => absurd (by rw [ev_ltI hx2 hy2]; exact Nat.blt_eq.mp hq) q)
  · exact lv_icmp_ge hx hb hd ht (fun _ => kk) (fun q => absurd (by rw [ev_leI hy2 hx2]; exact Nat.le_of_ble_eq_true hq) q)
  · exact lv_icmp_gt hx hb hd ht (fun _ => kk) (fun q => absurd (by rw [ev_ltI hy2 hx2]; exact Nat.blt_eq.mp hq) q)
  · exact lv_icmp_le hx hb hd ht (fun _ => kk) (fun q => absurd (by rw [ev_leI hx2 hy2]; exact Nat.le_of_ble_eq_true hq) q)
theorem ev_sw_ok {pc pc' : Nat} {off : Int} {L r L' st' : List Nat} (h : ev_sw pc off L r = some (pc', L', st')) : (pc : Int) + off = (pc' : Int) ∧ L' = L ∧ st' = r := by
  unfold ev_sw at h
  obtain ⟨h1, h2⟩ := ev_bif2 h
  have h1 := of_decide_eq_true h1
  simp only [Prod.mk.injEq] at h2
  obtain ⟨e1, e2, e3⟩ := h2
  exact ⟨by rw [← e1]; exact (Int.toNat_of_nonneg h1).symm, e2.symm, e3.symm⟩
theorem ev_A_iload {ka : ev_KA} (hx : p.tables.exec = Jvm.exec) (hb : c.code = cc) {n : Nat} {n0 a pc pc' nL : Nat} {L st L' st' ads : List Nat} {ls : Array Slot} {vs : List Value} (hd : decode cc pc = .ok ((.iload n), ev_len (.iload n) n0)) (hs : ev_stA (.iload n) a pc L st = some (pc', L', st')) (hL : ev_L ka ads nL L ls) (hS : ev_S ka ads st vs)
    (kk : ∀ (ls' : Array Slot) (vs' : List Value), ev_L ka ads nL L' ls' → ev_S ka ads st' vs' → W p l e R s m args below meth c H locs cells slots Q (F0 m pc' ls' vs')) : W p l e R s m args below meth c H locs cells slots Q (F0 m pc ls vs) := by
  have hlen := hL.1
  obtain ⟨x, h1, h2, rfl, rfl, rfl⟩ := ev_ldI_ok hs hL
  exact lv_iload hx hb hd h1 (kk _ _ hL ⟨.int h2, hS⟩)
theorem ev_A_iload_n {ka : ev_KA} (hx : p.tables.exec = Jvm.exec) (hb : c.code = cc) {n : Fin 4} {n0 a pc pc' nL : Nat} {L st L' st' ads : List Nat} {ls : Array Slot} {vs : List Value} (hd : decode cc pc = .ok ((.iload_n n), ev_len (.iload_n n) n0)) (hs : ev_stA (.iload_n n) a pc L st = some (pc', L', st')) (hL : ev_L ka ads nL L ls) (hS : ev_S ka ads st vs)
    (kk : ∀ (ls' : Array Slot) (vs' : List Value), ev_L ka ads nL L' ls' → ev_S ka ads st' vs' → W p l e R s m args below meth c H locs cells slots Q (F0 m pc' ls' vs')) : W p l e R s m args below meth c H locs cells slots Q (F0 m pc ls vs) := by
  have hlen := hL.1
  obtain ⟨x, h1, h2, rfl, rfl, rfl⟩ := ev_ldI_ok hs hL
  exact lv_iload_n hx hb hd rfl h1 (kk _ _ hL ⟨.int h2, hS⟩)
theorem ev_A_lload {ka : ev_KA} (hx : p.tables.exec = Jvm.exec) (hb : c.code = cc) {n : Nat} {n0 a pc pc' nL : Nat} {L st L' st' ads : List Nat} {ls : Array Slot} {vs : List Value} (hd : decode cc pc = .ok ((.lload n), ev_len (.lload n) n0)) (hs : ev_stA (.lload n) a pc L st = some (pc', L', st')) (hL : ev_L ka ads nL L ls) (hS : ev_S ka ads st vs)
    (kk : ∀ (ls' : Array Slot) (vs' : List Value), ev_L ka ads nL L' ls' → ev_S ka ads st' vs' → W p l e R s m args below meth c H locs cells slots Q (F0 m pc' ls' vs')) : W p l e R s m args below meth c H locs cells slots Q (F0 m pc ls vs) := by
  have hlen := hL.1
  obtain ⟨x, h1, h2, rfl, rfl, rfl⟩ := ev_ldL_ok hs hL
  exact lv_lload hx hb hd h1 (kk _ _ hL ⟨h2, hS⟩)
theorem ev_A_lload_n {ka : ev_KA} (hx : p.tables.exec = Jvm.exec) (hb : c.code = cc) {n : Fin 4} {n0 a pc pc' nL : Nat} {L st L' st' ads : List Nat} {ls : Array Slot} {vs : List Value} (hd : decode cc pc = .ok ((.lload_n n), ev_len (.lload_n n) n0)) (hs : ev_stA (.lload_n n) a pc L st = some (pc', L', st')) (hL : ev_L ka ads nL L ls) (hS : ev_S ka ads st vs)
    (kk : ∀ (ls' : Array Slot) (vs' : List Value), ev_L ka ads nL L' ls' → ev_S ka ads st' vs' → W p l e R s m args below meth c H locs cells slots Q (F0 m pc' ls' vs')) : W p l e R s m args below meth c H locs cells slots Q (F0 m pc ls vs) := by
  have hlen := hL.1
  obtain ⟨x, h1, h2, rfl, rfl, rfl⟩ := ev_ldL_ok hs hL
  exact lv_lload_n hx hb hd rfl h1 (kk _ _ hL ⟨h2, hS⟩)
theorem ev_A_aload {ka : ev_KA} (hx : p.tables.exec = Jvm.exec) (hb : c.code = cc) {n : Nat} {n0 a pc pc' nL : Nat} {L st L' st' ads : List Nat} {ls : Array Slot} {vs : List Value} (hd : decode cc pc = .ok ((.aload n), ev_len (.aload n) n0)) (hs : ev_stA (.aload n) a pc L st = some (pc', L', st')) (hL : ev_L ka ads nL L ls) (hS : ev_S ka ads st vs)
    (kk : ∀ (ls' : Array Slot) (vs' : List Value), ev_L ka ads nL L' ls' → ev_S ka ads st' vs' → W p l e R s m args below meth c H locs cells slots Q (F0 m pc' ls' vs')) : W p l e R s m args below meth c H locs cells slots Q (F0 m pc ls vs) := by
  have hlen := hL.1
  obtain ⟨x, v, h1, h2, h3, rfl, rfl, rfl⟩ := ev_ldR_ok hs hL
  rcases h3 with rfl | ⟨q, rfl⟩
  · exact lv_aloadN hx hb hd h1 (kk _ _ hL ⟨h2, hS⟩)
  · exact lv_aload hx hb hd h1 (kk _ _ hL ⟨h2, hS⟩)
theorem ev_A_aload_n {ka : ev_KA} (hx : p.tables.exec = Jvm.exec) (hb : c.code = cc) {n : Fin 4} {n0 a pc pc' nL : Nat} {L st L' st' ads : List Nat} {ls : Array Slot} {vs : List Value} (hd : decode cc pc = .ok ((.aload_n n), ev_len (.aload_n n) n0)) (hs : ev_stA (.aload_n n) a pc L st = some (pc', L', st')) (hL : ev_L ka ads nL L ls) (hS : ev_S ka ads st vs)
    (kk : ∀ (ls' : Array Slot) (vs' : List Value), ev_L ka ads nL L' ls' → ev_S ka ads st' vs' → W p l e R s m args below meth c H locs cells slots Q (F0 m pc' ls' vs')) : W p l e R s m args below meth c H locs cells slots Q (F0 m pc ls vs) := by
  have hlen := hL.1
  obtain ⟨x, v, h1, h2, h3, rfl, rfl, rfl⟩ := ev_ldR_ok hs hL
  rcases h3 with rfl | ⟨q, rfl⟩
  · exact lv_aload_nN hx hb hd rfl h1 (kk _ _ hL ⟨h2, hS⟩)
  · exact lv_aload_n hx hb hd rfl h1 (kk _ _ hL ⟨h2, hS⟩)
theorem ev_A_istore {ka : ev_KA} (hx : p.tables.exec = Jvm.exec) (hb : c.code = cc) {n : Nat} {n0 a pc pc' nL : Nat} {L st L' st' ads : List Nat} {ls : Array Slot} {vs : List Value} (hd : decode cc pc = .ok ((.istore n), ev_len (.istore n) n0)) (hs : ev_stA (.istore n) a pc L st = some (pc', L', st')) (hL : ev_L ka ads nL L ls) (hS : ev_S ka ads st vs)
    (kk : ∀ (ls' : Array Slot) (vs' : List Value), ev_L ka ads nL L' ls' → ev_S ka ads st' vs' → W p l e R s m args below meth c H locs cells slots Q (F0 m pc' ls' vs')) : W p l e R s m args below meth c H locs cells slots Q (F0 m pc ls vs) := by
  have hlen := hL.1
  obtain ⟨x, r, vr, rfl, h1, h2, rfl, rfl, rfl, h3⟩ := ev_stI_ok hlen hs hS
  obtain ⟨_, lv, h4, h5⟩ := hL
  exact lv_istore hx hb hd h4 h2 rfl (fun ls' h' => kk _ _ (ev_L.set1 hlen h5 (.int h1) h') h3)
theorem ev_A_istore_n {ka : ev_KA} (hx : p.tables.exec = Jvm.exec) (hb : c.code = cc) {n : Fin 4} {n0 a pc pc' nL : Nat} {L st L' st' ads : List Nat} {ls : Array Slot} {vs : List Value} (hd : decode cc pc = .ok ((.istore_n n), ev_len (.istore_n n) n0)) (hs : ev_stA (.istore_n n) a pc L st = some (pc', L', st')) (hL : ev_L ka ads nL L ls) (hS : ev_S ka ads st vs)
    (kk : ∀ (ls' : Array Slot) (vs' : List Value), ev_L ka ads nL L' ls' → ev_S ka ads st' vs' → W p l e R s m args below meth c H locs cells slots Q (F0 m pc' ls' vs')) : W p l e R s m args below meth c H locs cells slots Q (F0 m pc ls vs) := by
  have hlen := hL.1
  obtain ⟨x, r, vr, rfl, h1, h2, rfl, rfl, rfl, h3⟩ := ev_stI_ok hlen hs hS
  obtain ⟨_, lv, h4, h5⟩ := hL
  exact lv_istore_n hx hb hd rfl h4 h2 rfl (fun ls' h' => kk _ _ (ev_L.set1 hlen h5 (.int h1) h') h3)
theorem ev_A_lstore {ka : ev_KA} (hx : p.tables.exec = Jvm.exec) (hb : c.code = cc) {n : Nat} {n0 a pc pc' nL : Nat} {L st L' st' ads : List Nat} {ls : Array Slot} {vs : List Value} (hd : decode cc pc = .ok ((.lstore n), ev_len (.lstore n) n0)) (hs : ev_stA (.lstore n) a pc L st = some (pc', L', st')) (hL : ev_L ka ads nL L ls) (hS : ev_S ka ads st vs)
    (kk : ∀ (ls' : Array Slot) (vs' : List Value), ev_L ka ads nL L' ls' → ev_S ka ads st' vs' → W p l e R s m args below meth c H locs cells slots Q (F0 m pc' ls' vs')) : W p l e R s m args below meth c H locs cells slots Q (F0 m pc ls vs) := by
  have hlen := hL.1
  obtain ⟨x, r, vr, rfl, h1, h2, rfl, rfl, rfl, h3⟩ := ev_stL_ok hlen hs hS
  obtain ⟨_, lv, h4, h5⟩ := hL
  exact lv_lstore hx hb hd h4 h2 rfl (fun ls' h' => kk _ _ (ev_L.set2 hlen h5 h1 h') h3)
theorem ev_A_lstore_n {ka : ev_KA} (hx : p.tables.exec = Jvm.exec) (hb : c.code = cc) {n : Fin 4} {n0 a pc pc' nL : Nat} {L st L' st' ads : List Nat} {ls : Array Slot} {vs : List Value} (hd : decode cc pc = .ok ((.lstore_n n), ev_len (.lstore_n n) n0)) (hs : ev_stA (.lstore_n n) a pc L st = some (pc', L', st')) (hL : ev_L ka ads nL L ls) (hS : ev_S ka ads st vs)
    (kk : ∀ (ls' : Array Slot) (vs' : List Value), ev_L ka ads nL L' ls' → ev_S ka ads st' vs' → W p l e R s m args below meth c H locs cells slots Q (F0 m pc' ls' vs')) : W p l e R s m args below meth c H locs cells slots Q (F0 m pc ls vs) := by
  have hlen := hL.1
  obtain ⟨x, r, vr, rfl, h1, h2, rfl, rfl, rfl, h3⟩ := ev_stL_ok hlen hs hS
  obtain ⟨_, lv, h4, h5⟩ := hL
  exact lv_lstore_n hx hb hd rfl h4 h2 rfl (fun ls' h' => kk _ _ (ev_L.set2 hlen h5 h1 h') h3)
theorem ev_A_astore {ka : ev_KA} (hx : p.tables.exec = Jvm.exec) (hb : c.code = cc) {n : Nat} {n0 a pc pc' nL : Nat} {L st L' st' ads : List Nat} {ls : Array Slot} {vs : List Value} (hd : decode cc pc = .ok ((.astore n), ev_len (.astore n) n0)) (hs : ev_stA (.astore n) a pc L st = some (pc', L', st')) (hL : ev_L ka ads nL L ls) (hS : ev_S ka ads st vs)
    (kk : ∀ (ls' : Array Slot) (vs' : List Value), ev_L ka ads nL L' ls' → ev_S ka ads st' vs' → W p l e R s m args below meth c H locs cells slots Q (F0 m pc' ls' vs')) : W p l e R s m args below meth c H locs cells slots Q (F0 m pc ls vs) := by
  have hlen := hL.1
  obtain ⟨x, v, r, vr, rfl, h1, h6, h2, rfl, rfl, rfl, h3⟩ := ev_stR_ok hlen hs hS
  obtain ⟨_, lv, h4, h5⟩ := hL
  rcases h6 with rfl | ⟨q, rfl⟩
  · exact lv_astoreN hx hb hd h4 h2 rfl (fun ls' h' => kk _ _ (ev_L.set1 hlen h5 h1 h') h3)
  · exact lv_astore hx hb hd h4 h2 rfl (fun ls' h' => kk _ _ (ev_L.set1 hlen h5 h1 h') h3)
theorem ev_A_astore_n {ka : ev_KA} (hx : p.tables.exec = Jvm.exec) (hb : c.code = cc) {n : Fin 4} {n0 a pc pc' nL : Nat} {L st L' st' ads : List Nat} {ls : Array Slot} {vs : List Value} (hd : decode cc pc = .ok ((.astore_n n), ev_len (.astore_n n) n0)) (hs : ev_stA (.astore_n n) a pc L st = some (pc', L', st')) (hL : ev_L ka ads nL L ls) (hS : ev_S ka ads st vs)
    (kk : ∀ (ls' : Array Slot) (vs' : List Value), ev_L ka ads nL L' ls' → ev_S ka ads st' vs' → W p l e R s m args below meth c H locs cells slots Q (F0 m pc' ls' vs')) : W p l e R s m args below meth c H locs cells slots Q (F0 m pc ls vs) := by
  have hlen := hL.1
  obtain ⟨x, v, r, vr, rfl, h1, h6, h2, rfl, rfl, rfl, h3⟩ := ev_stR_ok hlen hs hS
  obtain ⟨_, lv, h4, h5⟩ := hL
  rcases h6 with rfl | ⟨q, rfl⟩
  · exact lv_astore_nN hx hb hd rfl h4 h2 rfl (fun ls' h' => kk _ _ (ev_L.set1 hlen h5 h1 h') h3)
  · exact lv_astore_n hx hb hd rfl h4 h2 rfl (fun ls' h' => kk _ _ (ev_L.set1 hlen h5 h1 h') h3)
theorem ev_A_iconst {ka : ev_KA} (hx : p.tables.exec = Jvm.exec) (hb : c.code = cc) {n : Int} {n0 a pc pc' nL : Nat} {L st L' st' ads : List Nat} {ls : Array Slot} {vs : List Value} (hd : decode cc pc = .ok ((.iconst n), ev_len (.iconst n) n0)) (hs : ev_stA (.iconst n) a pc L st = some (pc', L', st')) (hL : ev_L ka ads nL L ls) (hS : ev_S ka ads st vs)
    (kk : ∀ (ls' : Array Slot) (vs' : List Value), ev_L ka ads nL L' ls' → ev_S ka ads st' vs' → W p l e R s m args below meth c H locs cells slots Q (F0 m pc' ls' vs')) : W p l e R s m args below meth c H locs cells slots Q (F0 m pc ls vs) := by
  have hlen := hL.1
  obtain ⟨h1, h2⟩ := ev_bif2 hs
  simp only [Bool.and_eq_true, decide_eq_true_eq] at h1
  simp only [Prod.mk.injEq] at h2
  obtain ⟨rfl, rfl, rfl⟩ := h2
  exact lv_iconst hx hb hd h1.1 (kk _ _ hL ⟨.int (ev_isI_s h1.2), hS⟩)
theorem ev_A_bipush {ka : ev_KA} (hx : p.tables.exec = Jvm.exec) (hb : c.code = cc) {n : Int} {n0 a pc pc' nL : Nat} {L st L' st' ads : List Nat} {ls : Array Slot} {vs : List Value} (hd : decode cc pc = .ok ((.bipush n), ev_len (.bipush n) n0)) (hs : ev_stA (.bipush n) a pc L st = some (pc', L', st')) (hL : ev_L ka ads nL L ls) (hS : ev_S ka ads st vs)
    (kk : ∀ (ls' : Array Slot) (vs' : List Value), ev_L ka ads nL L' ls' → ev_S ka ads st' vs' → W p l e R s m args below meth c H locs cells slots Q (F0 m pc' ls' vs')) : W p l e R s m args below meth c H locs cells slots Q (F0 m pc ls vs) := by
  have hlen := hL.1
  obtain ⟨h1, h2⟩ := ev_bif2 hs
  simp only [Bool.and_eq_true, decide_eq_true_eq] at h1
  simp only [Prod.mk.injEq] at h2
  obtain ⟨rfl, rfl, rfl⟩ := h2
  exact lv_bipush hx hb hd h1.1 (kk _ _ hL ⟨.int (ev_isI_s h1.2), hS⟩)
theorem ev_A_sipush {ka : ev_KA} (hx : p.tables.exec = Jvm.exec) (hb : c.code = cc) {n : Int} {n0 a pc pc' nL : Nat} {L st L' st' ads : List Nat} {ls : Array Slot} {vs : List Value} (hd : decode cc pc = .ok ((.sipush n), ev_len (.sipush n) n0)) (hs : ev_stA (.sipush n) a pc L st = some (pc', L', st')) (hL : ev_L ka ads nL L ls) (hS : ev_S ka ads st vs)
    (kk : ∀ (ls' : Array Slot) (vs' : List Value), ev_L ka ads nL L' ls' → ev_S ka ads st' vs' → W p l e R s m args below meth c H locs cells slots Q (F0 m pc' ls' vs')) : W p l e R s m args below meth c H locs cells slots Q (F0 m pc ls vs) := by
  have hlen := hL.1
  obtain ⟨h1, h2⟩ := ev_bif2 hs
  simp only [Bool.and_eq_true, decide_eq_true_eq] at h1
  simp only [Prod.mk.injEq] at h2
  obtain ⟨rfl, rfl, rfl⟩ := h2
  exact lv_sipush hx hb hd h1.1 (kk _ _ hL ⟨.int (ev_isI_s h1.2), hS⟩)
theorem ev_A_lconst {ka : ev_KA} (hx : p.tables.exec = Jvm.exec) (hb : c.code = cc) {n : Fin 2} {n0 a pc pc' nL : Nat} {L st L' st' ads : List Nat} {ls : Array Slot} {vs : List Value} (hd : decode cc pc = .ok ((.lconst n), ev_len (.lconst n) n0)) (hs : ev_stA (.lconst n) a pc L st = some (pc', L', st')) (hL : ev_L ka ads nL L ls) (hS : ev_S ka ads st vs)
    (kk : ∀ (ls' : Array Slot) (vs' : List Value), ev_L ka ads nL L' ls' → ev_S ka ads st' vs' → W p l e R s m args below meth c H locs cells slots Q (F0 m pc' ls' vs')) : W p l e R s m args below meth c H locs cells slots Q (F0 m pc ls vs) := by
  have hlen := hL.1
  simp only [ev_stA, Option.some.injEq, Prod.mk.injEq] at hs
  obtain ⟨rfl, rfl, rfl⟩ := hs
  exact lv_lconst hx hb hd rfl (kk _ _ hL ⟨ev_oLc_v n, hS⟩)
theorem ev_A_iadd {ka : ev_KA} (hx : p.tables.exec = Jvm.exec) (hb : c.code = cc) {n0 a pc pc' nL : Nat} {L st L' st' ads : List Nat} {ls : Array Slot} {vs : List Value} (hd : decode cc pc = .ok (.iadd, ev_len .iadd n0)) (hs : ev_stA .iadd a pc L st = some (pc', L', st')) (hL : ev_L ka ads nL L ls) (hS : ev_S ka ads st vs)
    (kk : ∀ (ls' : Array Slot) (vs' : List Value), ev_L ka ads nL L' ls' → ev_S ka ads st' vs' → W p l e R s m args below meth c H locs cells slots Q (F0 m pc' ls' vs')) : W p l e R s m args below meth c H locs cells slots Q (F0 m pc ls vs) := by
  have hlen := hL.1
  simp only [ev_stA] at hs
  obtain ⟨x, y, r, vr, rfl, h1, h2, rfl, rfl, rfl, h3⟩ := ev_bI_ok hs hS
  exact lv_iadd hx hb hd (kk _ _ hL ⟨ev_oAdd_v x y, h3⟩)
theorem ev_A_isub {ka : ev_KA} (hx : p.tables.exec = Jvm.exec) (hb : c.code = cc) {n0 a pc pc' nL : Nat} {L st L' st' ads : List Nat} {ls : Array Slot} {vs : List Value} (hd : decode cc pc = .ok (.isub, ev_len .isub n0)) (hs : ev_stA .isub a pc L st = some (pc', L', st')) (hL : ev_L ka ads nL L ls) (hS : ev_S ka ads st vs)
    (kk : ∀ (ls' : Array Slot) (vs' : List Value), ev_L ka ads nL L' ls' → ev_S ka ads st' vs' → W p l e R s m args below meth c H locs cells slots Q (F0 m pc' ls' vs')) : W p l e R s m args below meth c H locs cells slots Q (F0 m pc ls vs) := by
  have hlen := hL.1
  simp only [ev_stA] at hs
  obtain ⟨x, y, r, vr, rfl, h1, h2, rfl, rfl, rfl, h3⟩ := ev_bI_ok hs hS
  exact lv_isub hx hb hd (kk _ _ hL ⟨ev_oSub_v h1 h2, h3⟩)
theorem ev_A_imul {ka : ev_KA} (hx : p.tables.exec = Jvm.exec) (hb : c.code = cc) {n0 a pc pc' nL : Nat} {L st L' st' ads : List Nat} {ls : Array Slot} {vs : List Value} (hd : decode cc pc = .ok (.imul, ev_len .imul n0)) (hs : ev_stA .imul a pc L st = some (pc', L', st')) (hL : ev_L ka ads nL L ls) (hS : ev_S ka ads st vs)
    (kk : ∀ (ls' : Array Slot) (vs' : List Value), ev_L ka ads nL L' ls' → ev_S ka ads st' vs' → W p l e R s m args below meth c H locs cells slots Q (F0 m pc' ls' vs')) : W p l e R s m args below meth c H locs cells slots Q (F0 m pc ls vs) := by
  have hlen := hL.1
  simp only [ev_stA] at hs
  obtain ⟨x, y, r, vr, rfl, h1, h2, rfl, rfl, rfl, h3⟩ := ev_bI_ok hs hS
  exact lv_imul hx hb hd (kk _ _ hL ⟨ev_oMul_v x y, h3⟩)
theorem ev_A_iand {ka : ev_KA} (hx : p.tables.exec = Jvm.exec) (hb : c.code = cc) {n0 a pc pc' nL : Nat} {L st L' st' ads : List Nat} {ls : Array Slot} {vs : List Value} (hd : decode cc pc = .ok (.iand, ev_len .iand n0)) (hs : ev_stA .iand a pc L st = some (pc', L', st')) (hL : ev_L ka ads nL L ls) (hS : ev_S ka ads st vs)
    (kk : ∀ (ls' : Array Slot) (vs' : List Value), ev_L ka ads nL L' ls' → ev_S ka ads st' vs' → W p l e R s m args below meth c H locs cells slots Q (F0 m pc' ls' vs')) : W p l e R s m args below meth c H locs cells slots Q (F0 m pc ls vs) := by
  have hlen := hL.1
  simp only [ev_stA] at hs
  obtain ⟨x, y, r, vr, rfl, h1, h2, rfl, rfl, rfl, h3⟩ := ev_bI_ok hs hS
  exact lv_iand hx hb hd (kk _ _ hL ⟨ev_oAnd_v h1 h2, h3⟩)
theorem ev_A_ior {ka : ev_KA} (hx : p.tables.exec = Jvm.exec) (hb : c.code = cc) {n0 a pc pc' nL : Nat} {L st L' st' ads : List Nat} {ls : Array Slot} {vs : List Value} (hd : decode cc pc = .ok (.ior, ev_len .ior n0)) (hs : ev_stA .ior a pc L st = some (pc', L', st')) (hL : ev_L ka ads nL L ls) (hS : ev_S ka ads st vs)
    (kk : ∀ (ls' : Array Slot) (vs' : List Value), ev_L ka ads nL L' ls' → ev_S ka ads st' vs' → W p l e R s m args below meth c H locs cells slots Q (F0 m pc' ls' vs')) : W p l e R s m args below meth c H locs cells slots Q (F0 m pc ls vs) := by
  have hlen := hL.1
  simp only [ev_stA] at hs
  obtain ⟨x, y, r, vr, rfl, h1, h2, rfl, rfl, rfl, h3⟩ := ev_bI_ok hs hS
  exact lv_ior hx hb hd (kk _ _ hL ⟨ev_oOr_v h1 h2, h3⟩)
theorem ev_A_ixor {ka : ev_KA} (hx : p.tables.exec = Jvm.exec) (hb : c.code = cc) {n0 a pc pc' nL : Nat} {L st L' st' ads : List Nat} {ls : Array Slot} {vs : List Value} (hd : decode cc pc = .ok (.ixor, ev_len .ixor n0)) (hs : ev_stA .ixor a pc L st = some (pc', L', st')) (hL : ev_L ka ads nL L ls) (hS : ev_S ka ads st vs)
    (kk : ∀ (ls' : Array Slot) (vs' : List Value), ev_L ka ads nL L' ls' → ev_S ka ads st' vs' → W p l e R s m args below meth c H locs cells slots Q (F0 m pc' ls' vs')) : W p l e R s m args below meth c H locs cells slots Q (F0 m pc ls vs) := by
  have hlen := hL.1
  simp only [ev_stA] at hs
  obtain ⟨x, y, r, vr, rfl, h1, h2, rfl, rfl, rfl, h3⟩ := ev_bI_ok hs hS
  exact lv_ixor hx hb hd (kk _ _ hL ⟨ev_oXor_v h1 h2, h3⟩)
theorem ev_A_iushr {ka : ev_KA} (hx : p.tables.exec = Jvm.exec) (hb : c.code = cc) {n0 a pc pc' nL : Nat} {L st L' st' ads : List Nat} {ls : Array Slot} {vs : List Value} (hd : decode cc pc = .ok (.iushr, ev_len .iushr n0)) (hs : ev_stA .iushr a pc L st = some (pc', L', st')) (hL : ev_L ka ads nL L ls) (hS : ev_S ka ads st vs)
    (kk : ∀ (ls' : Array Slot) (vs' : List Value), ev_L ka ads nL L' ls' → ev_S ka ads st' vs' → W p l e R s m args below meth c H locs cells slots Q (F0 m pc' ls' vs')) : W p l e R s m args below meth c H locs cells slots Q (F0 m pc ls vs) := by
  have hlen := hL.1
  simp only [ev_stA] at hs
  obtain ⟨x, y, r, vr, rfl, h1, h2, rfl, rfl, rfl, h3⟩ := ev_bI_ok hs hS
  exact lv_iushr hx hb hd (ev_ushrI h1 h2) (kk _ _ hL ⟨ev_oUsh_v h1, h3⟩)
theorem ev_A_ineg {ka : ev_KA} (hx : p.tables.exec = Jvm.exec) (hb : c.code = cc) {n0 a pc pc' nL : Nat} {L st L' st' ads : List Nat} {ls : Array Slot} {vs : List Value} (hd : decode cc pc = .ok (.ineg, ev_len .ineg n0)) (hs : ev_stA .ineg a pc L st = some (pc', L', st')) (hL : ev_L ka ads nL L ls) (hS : ev_S ka ads st vs)
    (kk : ∀ (ls' : Array Slot) (vs' : List Value), ev_L ka ads nL L' ls' → ev_S ka ads st' vs' → W p l e R s m args below meth c H locs cells slots Q (F0 m pc' ls' vs')) : W p l e R s m args below meth c H locs cells slots Q (F0 m pc ls vs) := by
  have hlen := hL.1
  simp only [ev_stA] at hs
  obtain ⟨x, r, vr, rfl, h1, rfl, rfl, rfl, h3⟩ := ev_uI_ok hs hS
  exact lv_ineg hx hb hd (kk _ _ hL ⟨ev_oNeg_v h1, h3⟩)
theorem ev_A_i2b {ka : ev_KA} (hx : p.tables.exec = Jvm.exec) (hb : c.code = cc) {n0 a pc pc' nL : Nat} {L st L' st' ads : List Nat} {ls : Array Slot} {vs : List Value} (hd : decode cc pc = .ok (.i2b, ev_len .i2b n0)) (hs : ev_stA .i2b a pc L st = some (pc', L', st')) (hL : ev_L ka ads nL L ls) (hS : ev_S ka ads st vs)
    (kk : ∀ (ls' : Array Slot) (vs' : List Value), ev_L ka ads nL L' ls' → ev_S ka ads st' vs' → W p l e R s m args below meth c H locs cells slots Q (F0 m pc' ls' vs')) : W p l e R s m args below meth c H locs cells slots Q (F0 m pc ls vs) := by
  have hlen := hL.1
  simp only [ev_stA] at hs
  obtain ⟨x, r, vr, rfl, h1, rfl, rfl, rfl, h3⟩ := ev_uI_ok hs hS
  exact lv_i2b hx hb hd (ev_i2b h1) (kk _ _ hL ⟨ev_b8_v x, h3⟩)
theorem ev_A_i2c {ka : ev_KA} (hx : p.tables.exec = Jvm.exec) (hb : c.code = cc) {n0 a pc pc' nL : Nat} {L st L' st' ads : List Nat} {ls : Array Slot} {vs : List Value} (hd : decode cc pc = .ok (.i2c, ev_len .i2c n0)) (hs : ev_stA .i2c a pc L st = some (pc', L', st')) (hL : ev_L ka ads nL L ls) (hS : ev_S ka ads st vs)
    (kk : ∀ (ls' : Array Slot) (vs' : List Value), ev_L ka ads nL L' ls' → ev_S ka ads st' vs' → W p l e R s m args below meth c H locs cells slots Q (F0 m pc' ls' vs')) : W p l e R s m args below meth c H locs cells slots Q (F0 m pc ls vs) := by
  have hlen := hL.1
  simp only [ev_stA] at hs
  obtain ⟨x, r, vr, rfl, h1, rfl, rfl, rfl, h3⟩ := ev_uI_ok hs hS
  exact lv_i2c hx hb hd (ev_i2c h1) (kk _ _ hL ⟨ev_oI2c_v, h3⟩)
theorem ev_A_i2l {ka : ev_KA} (hx : p.tables.exec = Jvm.exec) (hb : c.code = cc) {n0 a pc pc' nL : Nat} {L st L' st' ads : List Nat} {ls : Array Slot} {vs : List Value} (hd : decode cc pc = .ok (.i2l, ev_len .i2l n0)) (hs : ev_stA .i2l a pc L st = some (pc', L', st')) (hL : ev_L ka ads nL L ls) (hS : ev_S ka ads st vs)
    (kk : ∀ (ls' : Array Slot) (vs' : List Value), ev_L ka ads nL L' ls' → ev_S ka ads st' vs' → W p l e R s m args below meth c H locs cells slots Q (F0 m pc' ls' vs')) : W p l e R s m args below meth c H locs cells slots Q (F0 m pc ls vs) := by
  have hlen := hL.1
  simp only [ev_stA] at hs
  obtain ⟨x, r, vr, rfl, h1, rfl, rfl, rfl, h3⟩ := ev_uI_ok hs hS
  exact lv_i2l hx hb hd (ev_i2l h1) (kk _ _ hL ⟨ev_oI2l_v h1, h3⟩)
theorem ev_A_l2i {ka : ev_KA} (hx : p.tables.exec = Jvm.exec) (hb : c.code = cc) {n0 a pc pc' nL : Nat} {L st L' st' ads : List Nat} {ls : Array Slot} {vs : List Value} (hd : decode cc pc = .ok (.l2i, ev_len .l2i n0)) (hs : ev_stA .l2i a pc L st = some (pc', L', st')) (hL : ev_L ka ads nL L ls) (hS : ev_S ka ads st vs)
    (kk : ∀ (ls' : Array Slot) (vs' : List Value), ev_L ka ads nL L' ls' → ev_S ka ads st' vs' → W p l e R s m args below meth c H locs cells slots Q (F0 m pc' ls' vs')) : W p l e R s m args below meth c H locs cells slots Q (F0 m pc ls vs) := by
  have hlen := hL.1
  simp only [ev_stA] at hs
  split at hs
  · obtain ⟨h1, h2⟩ := ev_bif2 hs
    simp only [Prod.mk.injEq] at h2
    obtain ⟨rfl, rfl, rfl⟩ := h2
    obtain ⟨v1, r1, rfl, h3, h4⟩ := hS.cons
    obtain ⟨rfl, h5⟩ := h3.l h1
    exact lv_l2i hx hb hd (ev_l2i _) (kk _ _ hL ⟨ev_oL2i_v _, h4⟩)
  · cases hs
theorem ev_A_ladd {ka : ev_KA} (hx : p.tables.exec = Jvm.exec) (hb : c.code = cc) {n0 a pc pc' nL : Nat} {L st L' st' ads : List Nat} {ls : Array Slot} {vs : List Value} (hd : decode cc pc = .ok (.ladd, ev_len .ladd n0)) (hs : ev_stA .ladd a pc L st = some (pc', L', st')) (hL : ev_L ka ads nL L ls) (hS : ev_S ka ads st vs)
    (kk : ∀ (ls' : Array Slot) (vs' : List Value), ev_L ka ads nL L' ls' → ev_S ka ads st' vs' → W p l e R s m args below meth c H locs cells slots Q (F0 m pc' ls' vs')) : W p l e R s m args below meth c H locs cells slots Q (F0 m pc ls vs) := by
  have hlen := hL.1
  simp only [ev_stA] at hs
  obtain ⟨x, y, r, vr, rfl, h1, h2, rfl, rfl, rfl, h3⟩ := ev_bL_ok hs hS
  exact lv_ladd hx hb hd (kk _ _ hL ⟨ev_oAddL_v x y, h3⟩)
theorem ev_A_lsub {ka : ev_KA} (hx : p.tables.exec = Jvm.exec) (hb : c.code = cc) {n0 a pc pc' nL : Nat} {L st L' st' ads : List Nat} {ls : Array Slot} {vs : List Value} (hd : decode cc pc = .ok (.lsub, ev_len .lsub n0)) (hs : ev_stA .lsub a pc L st = some (pc', L', st')) (hL : ev_L ka ads nL L ls) (hS : ev_S ka ads st vs)
    (kk : ∀ (ls' : Array Slot) (vs' : List Value), ev_L ka ads nL L' ls' → ev_S ka ads st' vs' → W p l e R s m args below meth c H locs cells slots Q (F0 m pc' ls' vs')) : W p l e R s m args below meth c H locs cells slots Q (F0 m pc ls vs) := by
  have hlen := hL.1
  simp only [ev_stA] at hs
  obtain ⟨x, y, r, vr, rfl, h1, h2, rfl, rfl, rfl, h3⟩ := ev_bL_ok hs hS
  exact lv_lsub hx hb hd (kk _ _ hL ⟨ev_oSubL_v h1 h2, h3⟩)
theorem ev_A_lmul {ka : ev_KA} (hx : p.tables.exec = Jvm.exec) (hb : c.code = cc) {n0 a pc pc' nL : Nat} {L st L' st' ads : List Nat} {ls : Array Slot} {vs : List Value} (hd : decode cc pc = .ok (.lmul, ev_len .lmul n0)) (hs : ev_stA .lmul a pc L st = some (pc', L', st')) (hL : ev_L ka ads nL L ls) (hS : ev_S ka ads st vs)
    (kk : ∀ (ls' : Array Slot) (vs' : List Value), ev_L ka ads nL L' ls' → ev_S ka ads st' vs' → W p l e R s m args below meth c H locs cells slots Q (F0 m pc' ls' vs')) : W p l e R s m args below meth c H locs cells slots Q (F0 m pc ls vs) := by
  have hlen := hL.1
  simp only [ev_stA] at hs
  obtain ⟨x, y, r, vr, rfl, h1, h2, rfl, rfl, rfl, h3⟩ := ev_bL_ok hs hS
  exact lv_lmul hx hb hd (kk _ _ hL ⟨ev_oMulL_v x y, h3⟩)
theorem ev_A_land {ka : ev_KA} (hx : p.tables.exec = Jvm.exec) (hb : c.code = cc) {n0 a pc pc' nL : Nat} {L st L' st' ads : List Nat} {ls : Array Slot} {vs : List Value} (hd : decode cc pc = .ok (.land, ev_len .land n0)) (hs : ev_stA .land a pc L st = some (pc', L', st')) (hL : ev_L ka ads nL L ls) (hS : ev_S ka ads st vs)
    (kk : ∀ (ls' : Array Slot) (vs' : List Value), ev_L ka ads nL L' ls' → ev_S ka ads st' vs' → W p l e R s m args below meth c H locs cells slots Q (F0 m pc' ls' vs')) : W p l e R s m args below meth c H locs cells slots Q (F0 m pc ls vs) := by
  have hlen := hL.1
  simp only [ev_stA] at hs
  obtain ⟨x, y, r, vr, rfl, h1, h2, rfl, rfl, rfl, h3⟩ := ev_bL_ok hs hS
  exact lv_land hx hb hd (kk _ _ hL ⟨ev_oAndL_v h1 h2, h3⟩)
theorem ev_A_lxor {ka : ev_KA} (hx : p.tables.exec = Jvm.exec) (hb : c.code = cc) {n0 a pc pc' nL : Nat} {L st L' st' ads : List Nat} {ls : Array Slot} {vs : List Value} (hd : decode cc pc = .ok (.lxor, ev_len .lxor n0)) (hs : ev_stA .lxor a pc L st = some (pc', L', st')) (hL : ev_L ka ads nL L ls) (hS : ev_S ka ads st vs)
    (kk : ∀ (ls' : Array Slot) (vs' : List Value), ev_L ka ads nL L' ls' → ev_S ka ads st' vs' → W p l e R s m args below meth c H locs cells slots Q (F0 m pc' ls' vs')) : W p l e R s m args below meth c H locs cells slots Q (F0 m pc ls vs) := by
  have hlen := hL.1
  simp only [ev_stA] at hs
  obtain ⟨x, y, r, vr, rfl, h1, h2, rfl, rfl, rfl, h3⟩ := ev_bL_ok hs hS
  exact lv_lxor hx hb hd (kk _ _ hL ⟨ev_oXorL_v h1 h2, h3⟩)
theorem ev_A_lcmp {ka : ev_KA} (hx : p.tables.exec = Jvm.exec) (hb : c.code = cc) {n0 a pc pc' nL : Nat} {L st L' st' ads : List Nat} {ls : Array Slot} {vs : List Value} (hd : decode cc pc = .ok (.lcmp, ev_len .lcmp n0)) (hs : ev_stA .lcmp a pc L st = some (pc', L', st')) (hL : ev_L ka ads nL L ls) (hS : ev_S ka ads st vs)
    (kk : ∀ (ls' : Array Slot) (vs' : List Value), ev_L ka ads nL L' ls' → ev_S ka ads st' vs' → W p l e R s m args below meth c H locs cells slots Q (F0 m pc' ls' vs')) : W p l e R s m args below meth c H locs cells slots Q (F0 m pc ls vs) := by
  have hlen := hL.1
  simp only [ev_stA] at hs
  obtain ⟨x, y, r, vr, rfl, h1, h2, rfl, rfl, rfl, h3⟩ := ev_bL_ok hs hS
  exact W.lcmp hx hb hd (kk _ _ hL ⟨ev_oCmpL_v h1 h2, h3⟩)
theorem ev_A_lushr {ka : ev_KA} (hx : p.tables.exec = Jvm.exec) (hb : c.code = cc) {n0 a pc pc' nL : Nat} {L st L' st' ads : List Nat} {ls : Array Slot} {vs : List Value} (hd : decode cc pc = .ok (.lushr, ev_len .lushr n0)) (hs : ev_stA .lushr a pc L st = some (pc', L', st')) (hL : ev_L ka ads nL L ls) (hS : ev_S ka ads st vs)
    (kk : ∀ (ls' : Array Slot) (vs' : List Value), ev_L ka ads nL L' ls' → ev_S ka ads st' vs' → W p l e R s m args below meth c H locs cells slots Q (F0 m pc' ls' vs')) : W p l e R s m args below meth c H locs cells slots Q (F0 m pc ls vs) := by
  have hlen := hL.1
  simp only [ev_stA] at hs
  split at hs
  · obtain ⟨h1, h2⟩ := ev_bif2 hs
    simp only [Bool.and_eq_true] at h1
    simp only [Prod.mk.injEq] at h2
    obtain ⟨rfl, rfl, rfl⟩ := h2
    obtain ⟨v1, r1, rfl, h3, h4⟩ := hS.cons
    obtain ⟨rfl, h5⟩ := h3.i h1.1
    obtain ⟨v2, r2, rfl, h6, h7⟩ := h4.cons
    obtain ⟨rfl, h8⟩ := h6.l h1.2
    exact lv_lushr hx hb hd (ev_ushrL h8 h5) (kk _ _ hL ⟨ev_oUshL_v h8, h7⟩)
  · cases hs
theorem ev_A_dup {ka : ev_KA} (hx : p.tables.exec = Jvm.exec) (hb : c.code = cc) {n0 a pc pc' nL : Nat} {L st L' st' ads : List Nat} {ls : Array Slot} {vs : List Value} (hd : decode cc pc = .ok (.dup, ev_len .dup n0)) (hs : ev_stA .dup a pc L st = some (pc', L', st')) (hL : ev_L ka ads nL L ls) (hS : ev_S ka ads st vs)
    (kk : ∀ (ls' : Array Slot) (vs' : List Value), ev_L ka ads nL L' ls' → ev_S ka ads st' vs' → W p l e R s m args below meth c H locs cells slots Q (F0 m pc' ls' vs')) : W p l e R s m args below meth c H locs cells slots Q (F0 m pc ls vs) := by
  have hlen := hL.1
  simp only [ev_stA] at hs
  split at hs
  · rename_i x r
    cases hq : ev_isL x
    · rw [hq] at hs
      simp only [cond_false, Option.some.injEq, Prod.mk.injEq] at hs
      obtain ⟨rfl, rfl, rfl⟩ := hs
      obtain ⟨v1, r1, rfl, h3, h4⟩ := hS.cons
      exact lv_dup hx hb hd (h3.cat1 hq) (kk _ _ hL ⟨h3, h3, h4⟩)
    · rw [hq] at hs; cases hs
  · cases hs
theorem ev_A_dup_x1 {ka : ev_KA} (hx : p.tables.exec = Jvm.exec) (hb : c.code = cc) {n0 a pc pc' nL : Nat} {L st L' st' ads : List Nat} {ls : Array Slot} {vs : List Value} (hd : decode cc pc = .ok (.dup_x1, ev_len .dup_x1 n0)) (hs : ev_stA .dup_x1 a pc L st = some (pc', L', st')) (hL : ev_L ka ads nL L ls) (hS : ev_S ka ads st vs)
    (kk : ∀ (ls' : Array Slot) (vs' : List Value), ev_L ka ads nL L' ls' → ev_S ka ads st' vs' → W p l e R s m args below meth c H locs cells slots Q (F0 m pc' ls' vs')) : W p l e R s m args below meth c H locs cells slots Q (F0 m pc ls vs) := by
  have hlen := hL.1
  simp only [ev_stA] at hs
  split at hs
  · rename_i x y r
    cases hq : (ev_isL x || ev_isL y)
    · rw [hq] at hs
      simp only [cond_false, Option.some.injEq, Prod.mk.injEq] at hs
      obtain ⟨rfl, rfl, rfl⟩ := hs
      simp only [Bool.or_eq_false_iff] at hq
      obtain ⟨v1, r1, rfl, h3, h4⟩ := hS.cons
      obtain ⟨v2, r2, rfl, h5, h6⟩ := h4.cons
      exact lv_dup_x1 hx hb hd (h3.cat1 hq.1) (h5.cat1 hq.2) (kk _ _ hL ⟨h3, h5, h3, h6⟩)
    · rw [hq] at hs; cases hs
  · cases hs
theorem ev_A_dup2 {ka : ev_KA} (hx : p.tables.exec = Jvm.exec) (hb : c.code = cc) {n0 a pc pc' nL : Nat} {L st L' st' ads : List Nat} {ls : Array Slot} {vs : List Value} (hd : decode cc pc = .ok (.dup2, ev_len .dup2 n0)) (hs : ev_stA .dup2 a pc L st = some (pc', L', st')) (hL : ev_L ka ads nL L ls) (hS : ev_S ka ads st vs)
    (kk : ∀ (ls' : Array Slot) (vs' : List Value), ev_L ka ads nL L' ls' → ev_S ka ads st' vs' → W p l e R s m args below meth c H locs cells slots Q (F0 m pc' ls' vs')) : W p l e R s m args below meth c H locs cells slots Q (F0 m pc ls vs) := by
  have hlen := hL.1
  simp only [ev_stA] at hs
  split at hs
  · rename_i x r
    cases hq : ev_isL x
    · rw [hq] at hs
      simp only [cond_false] at hs
      split at hs
      · rename_i y r2
        cases hq2 : ev_isL y
        · rw [hq2] at hs
          simp only [cond_false, Option.some.injEq, Prod.mk.injEq] at hs
          obtain ⟨rfl, rfl, rfl⟩ := hs
          obtain ⟨v1, r1, rfl, h3, h4⟩ := hS.cons
          obtain ⟨v2, r2, rfl, h5, h6⟩ := h4.cons
          exact lv_dup2_11 hx hb hd (h3.cat1 hq) (h5.cat1 hq2) (kk _ _ hL ⟨h3, h5, h3, h5, h6⟩)
        · rw [hq2] at hs; cases hs
      · cases hs
    · rw [hq] at hs
      simp only [cond_true, Option.some.injEq, Prod.mk.injEq] at hs
      obtain ⟨rfl, rfl, rfl⟩ := hs
      obtain ⟨v1, r1, rfl, h3, h4⟩ := hS.cons
      obtain ⟨rfl, h5⟩ := h3.l hq
      exact lv_dup2_2 hx hb hd rfl (kk _ _ hL ⟨h3, h3, h4⟩)
  · cases hs
theorem ev_A_pop {ka : ev_KA} (hx : p.tables.exec = Jvm.exec) (hb : c.code = cc) {n0 a pc pc' nL : Nat} {L st L' st' ads : List Nat} {ls : Array Slot} {vs : List Value} (hd : decode cc pc = .ok (.pop, ev_len .pop n0)) (hs : ev_stA .pop a pc L st = some (pc', L', st')) (hL : ev_L ka ads nL L ls) (hS : ev_S ka ads st vs)
    (kk : ∀ (ls' : Array Slot) (vs' : List Value), ev_L ka ads nL L' ls' → ev_S ka ads st' vs' → W p l e R s m args below meth c H locs cells slots Q (F0 m pc' ls' vs')) : W p l e R s m args below meth c H locs cells slots Q (F0 m pc ls vs) := by
  have hlen := hL.1
  simp only [ev_stA] at hs
  split at hs
  · rename_i x r
    cases hq : ev_isL x
    · rw [hq] at hs
      simp only [cond_false, Option.some.injEq, Prod.mk.injEq] at hs
      obtain ⟨rfl, rfl, rfl⟩ := hs
      obtain ⟨v1, r1, rfl, h3, h4⟩ := hS.cons
      exact lv_pop hx hb hd (h3.cat1 hq) (kk _ _ hL h4)
    · rw [hq] at hs; cases hs
  · cases hs
theorem ev_A_iinc {ka : ev_KA} (hx : p.tables.exec = Jvm.exec) (hb : c.code = cc) {n : Nat} {k : Int} {n0 a pc pc' nL : Nat} {L st L' st' ads : List Nat} {ls : Array Slot} {vs : List Value} (hd : decode cc pc = .ok ((.iinc n k), ev_len (.iinc n k) n0)) (hs : ev_stA (.iinc n k) a pc L st = some (pc', L', st')) (hL : ev_L ka ads nL L ls) (hS : ev_S ka ads st vs)
    (kk : ∀ (ls' : Array Slot) (vs' : List Value), ev_L ka ads nL L' ls' → ev_S ka ads st' vs' → W p l e R s m args below meth c H locs cells slots Q (F0 m pc' ls' vs')) : W p l e R s m args below meth c H locs cells slots Q (F0 m pc ls vs) := by
  have hlen := hL.1
  simp only [ev_stA] at hs
  split at hs
  · rename_i x hx0
    obtain ⟨h1, h2⟩ := ev_bif2 hs
    simp only [Bool.and_eq_true, decide_eq_true_eq] at h1
    simp only [Prod.mk.injEq] at h2
    obtain ⟨rfl, rfl, rfl⟩ := h2
    obtain ⟨⟨h1, h6⟩, h7⟩ := h1
    obtain ⟨_, lv, h4, h5⟩ := hL
    have h8 := ev_isI_s h1
    rcases h5 n x hx0 with h | ⟨v, h9, h10⟩
    · omega
    · obtain ⟨rfl, _⟩ := h10.i h1
      obtain ⟨k0, hk0⟩ := List.getElem?_of_mem h9
      exact lv_iinc hx hb hd h4 hk0 (v := nI x + nI a) (by rw [← h7]) (hlen ▸ Nat.blt_eq.mp h6) rfl (fun ls' h' => kk _ _ (ev_L.set1 hlen h5 (ev_oAdd_v x a) h') hS)
  · cases hs
theorem ev_A_goto {ka : ev_KA} (hx : p.tables.exec = Jvm.exec) (hb : c.code = cc) {off : Int} {n0 a pc pc' nL : Nat} {L st L' st' ads : List Nat} {ls : Array Slot} {vs : List Value} (hd : decode cc pc = .ok ((.goto off), ev_len (.goto off) n0)) (hs : ev_stA (.goto off) a pc L st = some (pc', L', st')) (hL : ev_L ka ads nL L ls) (hS : ev_S ka ads st vs)
    (kk : ∀ (ls' : Array Slot) (vs' : List Value), ev_L ka ads nL L' ls' → ev_S ka ads st' vs' → W p l e R s m args below meth c H locs cells slots Q (F0 m pc' ls' vs')) : W p l e R s m args below meth c H locs cells slots Q (F0 m pc ls vs) := by
  have hlen := hL.1
  obtain ⟨h1, h2⟩ := ev_bif2 hs
  have h1 := of_decide_eq_true h1
  simp only [Prod.mk.injEq] at h2
  obtain ⟨rfl, rfl, rfl⟩ := h2
  exact lv_goto hx hb hd h1 (kk _ _ hL hS)
theorem ev_A_ifCond {ka : ev_KA} (hx : p.tables.exec = Jvm.exec) (hb : c.code = cc) {cd : Jvm.ClassFile.Cond} {off : Int} {n0 a pc pc' nL : Nat} {L st L' st' ads : List Nat} {ls : Array Slot} {vs : List Value} (hd : decode cc pc = .ok ((.ifCond cd off), ev_len (.ifCond cd off) n0)) (hs : ev_stA (.ifCond cd off) a pc L st = some (pc', L', st')) (hL : ev_L ka ads nL L ls) (hS : ev_S ka ads st vs)
    (kk : ∀ (ls' : Array Slot) (vs' : List Value), ev_L ka ads nL L' ls' → ev_S ka ads st' vs' → W p l e R s m args below meth c H locs cells slots Q (F0 m pc' ls' vs')) : W p l e R s m args below meth c H locs cells slots Q (F0 m pc ls vs) := by
  have hlen := hL.1
  simp only [ev_stA] at hs
  split at hs
  · rename_i x r
    cases hq : decide ((pc : Int) + off = (a : Int))
    · rw [hq] at hs; cases hs
    · rw [hq] at hs
      simp only [cond_true, ev_pI] at hs
      obtain ⟨h1, h2⟩ := ev_bif2 hs
      simp only [Prod.mk.injEq] at h2
      obtain ⟨rfl, rfl, rfl⟩ := h2
      obtain ⟨v1, r1, rfl, h3, h4⟩ := hS.cons
      obtain ⟨rfl, h5⟩ := h3.i h1
      exact ev_if_ok hx hb hd (of_decide_eq_true hq) h5 (kk _ _ hL h4)
  · cases hs
theorem ev_A_if_icmp {ka : ev_KA} (hx : p.tables.exec = Jvm.exec) (hb : c.code = cc) {cd : Jvm.ClassFile.Cond} {off : Int} {n0 a pc pc' nL : Nat} {L st L' st' ads : List Nat} {ls : Array Slot} {vs : List Value} (hd : decode cc pc = .ok ((.if_icmp cd off), ev_len (.if_icmp cd off) n0)) (hs : ev_stA (.if_icmp cd off) a pc L st = some (pc', L', st')) (hL : ev_L ka ads nL L ls) (hS : ev_S ka ads st vs)
    (kk : ∀ (ls' : Array Slot) (vs' : List Value), ev_L ka ads nL L' ls' → ev_S ka ads st' vs' → W p l e R s m args below meth c H locs cells slots Q (F0 m pc' ls' vs')) : W p l e R s m args below meth c H locs cells slots Q (F0 m pc ls vs) := by
  have hlen := hL.1
  simp only [ev_stA] at hs
  split at hs
  · rename_i y x r
    cases hq : (decide ((pc : Int) + off = (a : Int)) && ev_isI y)
    · rw [hq] at hs; cases hs
    · rw [hq] at hs
      simp only [cond_true, ev_pI] at hs
      simp only [Bool.and_eq_true] at hq
      obtain ⟨h1, h2⟩ := ev_bif2 hs
      simp only [Prod.mk.injEq] at h2
      obtain ⟨rfl, rfl, rfl⟩ := h2
      obtain ⟨v1, r1, rfl, h3, h4⟩ := hS.cons
      obtain ⟨rfl, h5⟩ := h3.i hq.2
      obtain ⟨v2, r2, rfl, h6, h7⟩ := h4.cons
      obtain ⟨rfl, h8⟩ := h6.i h1
      exact ev_ic_ok hx hb hd (of_decide_eq_true hq.1) h8 h5 (kk _ _ hL h7)
  · cases hs
theorem ev_A_ifnull {ka : ev_KA} (hx : p.tables.exec = Jvm.exec) (hb : c.code = cc) {off : Int} {n0 a pc pc' nL : Nat} {L st L' st' ads : List Nat} {ls : Array Slot} {vs : List Value} (hd : decode cc pc = .ok ((.ifnull off), ev_len (.ifnull off) n0)) (hs : ev_stA (.ifnull off) a pc L st = some (pc', L', st')) (hL : ev_L ka ads nL L ls) (hS : ev_S ka ads st vs)
    (kk : ∀ (ls' : Array Slot) (vs' : List Value), ev_L ka ads nL L' ls' → ev_S ka ads st' vs' → W p l e R s m args below meth c H locs cells slots Q (F0 m pc' ls' vs')) : W p l e R s m args below meth c H locs cells slots Q (F0 m pc ls vs) := by
  have hlen := hL.1
  simp only [ev_stA] at hs
  split at hs
  · rename_i x r
    cases hq : decide ((pc : Int) + off = (a : Int))
    · rw [hq] at hs; cases hs
    · rw [hq] at hs
      simp only [cond_true] at hs
      obtain ⟨v1, r1, rfl, h3, h4⟩ := hS.cons
      cases hn : ev_isN x
      · rw [hn] at hs
        simp only [cond_false] at hs
        obtain ⟨h1, h2⟩ := ev_bif2 hs
        simp only [Prod.mk.injEq] at h2
        obtain ⟨rfl, rfl, rfl⟩ := h2
        obtain ⟨q, _, rfl⟩ := h3.r h1
        exact lv_ifnull hx hb hd (kk _ _ hL h4)
      · rw [hn] at hs
        simp only [cond_true, Option.some.injEq, Prod.mk.injEq] at hs
        obtain ⟨rfl, rfl, rfl⟩ := hs
        obtain rfl := h3.n hn
        exact lv_ifnullN hx hb hd (of_decide_eq_true hq) (kk _ _ hL h4)
  · cases hs
theorem ev_A_ifnonnull {ka : ev_KA} (hx : p.tables.exec = Jvm.exec) (hb : c.code = cc) {off : Int} {n0 a pc pc' nL : Nat} {L st L' st' ads : List Nat} {ls : Array Slot} {vs : List Value} (hd : decode cc pc = .ok ((.ifnonnull off), ev_len (.ifnonnull off) n0)) (hs : ev_stA (.ifnonnull off) a pc L st = some (pc', L', st')) (hL : ev_L ka ads nL L ls) (hS : ev_S ka ads st vs)
    (kk : ∀ (ls' : Array Slot) (vs' : List Value), ev_L ka ads nL L' ls' → ev_S ka ads st' vs' → W p l e R s m args below meth c H locs cells slots Q (F0 m pc' ls' vs')) : W p l e R s m args below meth c H locs cells slots Q (F0 m pc ls vs) := by
  have hlen := hL.1
  simp only [ev_stA] at hs
  split at hs
  · rename_i x r
    cases hq : decide ((pc : Int) + off = (a : Int))
    · rw [hq] at hs; cases hs
    · rw [hq] at hs
      simp only [cond_true] at hs
      obtain ⟨v1, r1, rfl, h3, h4⟩ := hS.cons
      cases hn : ev_isR x
      · rw [hn] at hs
        simp only [cond_false] at hs
        obtain ⟨h1, h2⟩ := ev_bif2 hs
        simp only [Prod.mk.injEq] at h2
        obtain ⟨rfl, rfl, rfl⟩ := h2
        obtain rfl := h3.n h1
        exact lv_ifnonnullN hx hb hd (kk _ _ hL h4)
      · rw [hn] at hs
        simp only [cond_true, Option.some.injEq, Prod.mk.injEq] at hs
        obtain ⟨rfl, rfl, rfl⟩ := hs
        obtain ⟨q, _, rfl⟩ := h3.r hn
        exact lv_ifnonnull hx hb hd (of_decide_eq_true hq) (kk _ _ hL h4)
  · cases hs
end EVA
