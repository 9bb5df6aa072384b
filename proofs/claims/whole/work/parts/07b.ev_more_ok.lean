/-! ===== 07b: the further rules are the machine's ===== -/
theorem ev_cpN_at (A B dp sp : Nat) : ∀ n k : Nat, ev_at (ev_cpN A B dp sp n) k = if dp ≤ k ∧ k < dp + n then ev_at B (sp + (k - dp)) else ev_at A k
  | 0, k => by
    rw [if_neg (by omega)]
    rfl
  | n + 1, k => by
    have e : ev_cpN A B dp sp (n + 1) = ev_up (ev_cpN A B dp sp n) (dp + n) (ev_at B (sp + n)) := rfl
    rw [e, ev_at_up (ev_at_lt _ _), ev_cpN_at A B dp sp n k]
    by_cases h : k = dp + n
    · rw [if_pos h, if_pos (by omega), show sp + (k - dp) = sp + n by omega]
    · rw [if_neg h]
      by_cases h2 : dp ≤ k ∧ k < dp + n
      · rw [if_pos h2, if_pos (by omega)]
      · rw [if_neg h2, if_neg (by omega)]
theorem ev_all8_ok {B sp : Nat} : ∀ n : Nat, ev_all8 B sp n = true → ∀ i, i < n → ev_b8 (ev_at B (sp + i)) = ev_at B (sp + i)
  | 0, _, i, hi => absurd hi (Nat.not_lt_zero _)
  | n + 1, h, i, hi => by
    have h : (ev_all8 B sp n && Nat.beq (ev_b8 (ev_at B (sp + n))) (ev_at B (sp + n))) = true := h
    simp only [Bool.and_eq_true] at h
    by_cases e : i = n
    · subst e; exact Nat.eq_of_beq_eq_true h.2
    · exact ev_all8_ok n h.1 i (by omega)
theorem ev_fits8b {v : Nat} (h : ev_b8 v = v) : fits .byte (.int (nI v)) = true := by
  rw [← h, ev_b8_mod]
  exact ev_fits8 _ (Nat.mod_lt _ (by decide))
theorem ev_lNof (v : Int64) : lN v.toBitVec.toNat = v := ev_lext (by rw [ev_lNn]; exact Nat.mod_eq_of_lt v.toBitVec.isLt)
theorem ev_shr0 (v : Int32) : v >>> ((nI 0 : Int32) &&& 31) = v := by
  have e : (nI 0 : Int32) &&& 31 = 0 := by decide
  rw [e]
  exact Int32.shiftRight_zero
theorem ev_isK_s {x : Nat} (h : ev_isK x = true) : 92233720368547758080 ≤ x ∧ x < 110680464442257309696 := by
  simp only [ev_isK, Bool.and_eq_true] at h
  exact ⟨Nat.le_of_ble_eq_true h.1, Nat.blt_eq.mp h.2⟩
theorem ev_isA_s {x : Nat} (h : ev_isA x = true) : 110680464442257309696 ≤ x ∧ x < 129127208515966861312 := by
  simp only [ev_isA, Bool.and_eq_true] at h
  exact ⟨Nat.le_of_ble_eq_true h.1, Nat.blt_eq.mp h.2⟩
theorem ev_v.kK {ka : ev_KA} {ads : List Nat} {x : Nat} {v : Value} (h : ev_v ka ads x v) (hx : ev_isK x = true) : ∃ q, ka[x - 92233720368547758080]? = some q ∧ v = .ref q.1 := by
  have hx := ev_isK_s hx
  rcases h with ⟨h, e⟩ | ⟨n, hn, h, e⟩ | ⟨k, q, hk, h, h1, e⟩ | ⟨h, e⟩ | ⟨i, q, hi, h, h1, e⟩ | ⟨i, q, hi, h, h1, e⟩ | ⟨h, e⟩
  · omega
  · omega
  · omega
  · omega
  · exact ⟨q, by rw [show x - 92233720368547758080 = i by omega]; exact h1, e⟩
  · omega
  · omega
theorem ev_v.kA {ka : ev_KA} {ads : List Nat} {x : Nat} {v : Value} (h : ev_v ka ads x v) (hx : ev_isA x = true) : ∃ q, ka[x - 110680464442257309696]? = some q ∧ v = .ref q.2 := by
  have hx := ev_isA_s hx
  rcases h with ⟨h, e⟩ | ⟨n, hn, h, e⟩ | ⟨k, q, hk, h, h1, e⟩ | ⟨h, e⟩ | ⟨i, q, hi, h, h1, e⟩ | ⟨i, q, hi, h, h1, e⟩ | ⟨h, e⟩
  · omega
  · omega
  · omega
  · omega
  · omega
  · exact ⟨q, by rw [show x - 110680464442257309696 = i by omega]; exact h1, e⟩
  · omega
theorem ev_v.kR {ka : ev_KA} {ads : List Nat} {x : Nat} {v : Value} (h : ev_v ka ads x v) (hx : (ev_isK x || (ev_isA x || ev_isX x)) = true) : v = .null ∨ ∃ q, v = .ref q := by
  have hb : 92233720368547758080 ≤ x := by
    simp only [Bool.or_eq_true] at hx
    rcases hx with h | h | h
    · exact (ev_isK_s h).1
    · have := (ev_isA_s h).1; omega
    · have := Nat.eq_of_beq_eq_true (show Nat.beq x 129127208515966861312 = true from h); omega
  rcases h with ⟨h, e⟩ | ⟨n, hn, h, e⟩ | ⟨k, q, hk, h, h1, e⟩ | ⟨h, e⟩ | ⟨i, q, hi, h, h1, e⟩ | ⟨i, q, hi, h, h1, e⟩ | ⟨h, e⟩
  · omega
  · omega
  · omega
  · omega
  · exact Or.inr ⟨_, e⟩
  · exact Or.inr ⟨_, e⟩
  · exact e
theorem ev_ldK_ok {ka : ev_KA} {ads : List Nat} {nL d n pc : Nat} {L st : List Nat} {pc' : Nat} {L' st' : List Nat} {ls : Array Slot} (hs : ev_ldK d n pc L st = some (pc', L', st')) (hL : ev_L ka ads nL L ls) :
    ∃ x v, ls[n]? = some (.val v) ∧ ev_v ka ads x v ∧ (v = .null ∨ ∃ q, v = .ref q) ∧ pc' = pc + d ∧ L' = L ∧ st' = x :: st := by
  unfold ev_ldK at hs
  split at hs
  · rename_i x hx0
    cases hq : (ev_isK x || (ev_isA x || ev_isX x))
    · rw [hq] at hs; cases hs
    · rw [hq] at hs
      simp only [cond_true, Option.some.injEq, Prod.mk.injEq] at hs
      obtain ⟨e1, e2, e3⟩ := hs
      have hU : x ≠ 73786976294838206464 := by
        intro e
        rw [e] at hq
        cases hq
      obtain ⟨v, h1, h2⟩ := hL.get hx0 hU
      exact ⟨x, v, h1, h2, h2.kR hq, e1.symm, e2.symm, e3.symm⟩
  · cases hs
/-- the same object by a shorter table of its class -/
theorem ev_alias {D : va_G} {cl : List vw_C} {tys : List (ClassId × FieldType)} {U : State} (hK : va_K D cl tys U) {a b : Nat} {C : String} {T T' : u_T} (h1 : cl[a]? = some (C, T, b)) (h2 : cl[1]? = some (C, T', 2)) (hb : 2 ≤ b) (hT : ∀ k, k < 2 → (T k).1 = (T' k).1 ∧ (T k).2.1 = (T' k).2.1 ∧ (T k).2.2.1 = (T' k).2.2.1) {q : Nat} {fs : List Value} {H : Heap} (h : va_at D cl (q, .inr (a, fs)) H) : va_at D cl (q, .inr (1, fs.take 2)) H := by
  obtain ⟨r, hr, cell, g1, g2, g3, g4⟩ := (show ∃ r : vw_C, cl[a]? = some r ∧ t_OB q (D.1 a) r.2.2 (D.2 a) H (vp_V fs) from h)
  have hr2 : r = (C, T, b) := Option.some.inj (hr.symm.trans h1)
  subst hr2
  obtain ⟨s1, c1⟩ := hK.1 a _ h1
  obtain ⟨s2, c2⟩ := hK.1 1 _ h2
  refine (show ∃ r : vw_C, cl[1]? = some r ∧ t_OB q (D.1 1) r.2.2 (D.2 1) H (vp_V (fs.take 2)) from ⟨_, h2, cell, g1, ?_, g3, fun k hk => ?_⟩)
  · rw [g2]
    exact Option.some.inj (c1.1.symm.trans c2.1)
  · have hk2 : k < 2 := hk
    obtain ⟨cf, kf, fi, fd, e1, e2⟩ := s1 k (Nat.lt_of_lt_of_le hk2 hb)
    obtain ⟨cf', kf', fi', fd', e1', e2'⟩ := s2 k hk2
    obtain ⟨t1, t2, t3⟩ := hT k hk2
    dsimp only at e1 e1'
    rw [t1, t2, t3] at e1
    cases e1.symm.trans e1'
    have g := g4 k (Nat.lt_of_lt_of_le hk2 hb)
    rw [← e2', e2, g]
    unfold vp_V
    simp [List.getD_eq_getElem?_getD, List.getElem?_take, hk2]
theorem ev_lNne {x : Nat} (h : ev_isL x = true) (h0 : (!(Nat.beq x 18446744073709551616)) = true) : ¬ lN (x - 18446744073709551616) = 0 := by
  intro q
  have h1 := ev_isL_s h
  have h2 := congrArg (fun v : Int64 => v.toBitVec.toNat) q
  simp only [ev_lNn] at h2
  have h3 : (0 : Int64).toBitVec.toNat = 0 := rfl
  rw [h3] at h2
  have h4 : x = 18446744073709551616 := by omega
  subst h4
  rw [Nat.beq_refl] at h0
  cases h0
theorem ev_nIne {x : Nat} (h : ev_isI x = true) (h0 : (!(Nat.beq x 0)) = true) : ¬ nI x = 0 := by
  intro q
  have h1 := ev_isI_s h
  have h2 := congrArg (fun v : Int32 => v.toBitVec.toNat) q
  simp only [ev_nIn] at h2
  have h3 : (0 : Int32).toBitVec.toNat = 0 := rfl
  rw [h3] at h2
  have h4 : x = 0 := by omega
  subst h4
  cases h0
/-- what the tables must say of a row that the further rules speak of -/
def ev_lkK (cl : List vw_C) (dfl : Nat → Nat) (tyf : Nat → Nat → FieldType) (oc own : String) (args : Array Value) (s : State) (i : Instr) (a b t : Nat) : Prop := match i with
  | .getfield idx => a = 1 → b < 2 → (Jvm.Cond.fieldLink own idx "java/lang/String" (bif Nat.beq b 0 then "value" else "coder") (bif Nat.beq b 0 then "[B" else "B")).before args s = true
  | .ldc idx => ev_isK a = true → own = ev_kOwn tyf (a - 92233720368547758080) ∧ idx = dfl (4000 + (a - 92233720368547758080))
  | .getstatic idx => (a = 1 → (Jvm.Cond.fieldLink own idx "java/lang/String" "COMPACT_STRINGS" "Z").before args s = true) ∧ (ev_isX a = true → (Jvm.Cond.fieldLink own idx "jdk/internal/util/Preconditions" "SIOOBE_FORMATTER" "Ljava/util/function/BiFunction;").before args s = true)
  | .invokestatic idx => (a = 998 → (Jvm.Cond.methodLink own idx Lib.Math.min.name).before args s = true ∧ (Jvm.Cond.static Lib.Math.min.name).before args s = true ∧ (Jvm.Cond.initialized "java/lang/Math").before args s = true ∧ (Jvm.Cond.code Lib.Math.min.name Lib.Math.min.code 2 (some .int)).before args s = true) ∧
      (a = 997 → (Jvm.Cond.methodLink own idx Lib.Math.max.name).before args s = true ∧ (Jvm.Cond.static Lib.Math.max.name).before args s = true ∧ (Jvm.Cond.initialized "java/lang/Math").before args s = true ∧ (Jvm.Cond.code Lib.Math.max.name Lib.Math.max.code 2 (some .int)).before args s = true) ∧
      (a = 999 → (Jvm.Cond.methodLink own idx arraycopyName).before args s = true ∧ (Jvm.Cond.native arraycopyName).before args s = true ∧ (Jvm.Cond.static arraycopyName).before args s = true ∧ (Jvm.Cond.initialized "java/lang/System").before args s = true)
  | .new idx => t = 1 → ∃ (C : String) (T T' : u_T), cl[a]? = some (C, T, b) ∧ cl[1]? = some (C, T', 2) ∧ 2 ≤ b ∧ (∀ k, k < 2 → (T k).1 = (T' k).1 ∧ (T k).2.1 = (T' k).2.1 ∧ (T k).2.2.1 = (T' k).2.2.1) ∧ (Jvm.Cond.classLink own idx C).before args s = true ∧ (Jvm.Cond.instantiable C b).before args s = true ∧ (Jvm.Cond.initialized C).before args s = true ∧ (∀ j, j < 2 → (ev_tyc (tyf a j) = 20 ∧ ev_at (dfl 1) j = 55340232221128654848) ∨ (ev_tyc (tyf a j) < 3 ∧ ev_at (dfl 1) j = 0))
  | .anewarray idx => (Jvm.Cond.classLink own idx oc).before args s = true ∧ ev_kOc tyf = oc
  | .aastore => ∃ (T : u_T) (N : Nat), cl[a]? = some (oc, T, N)
  | _ => True
section EVX
variable {p : Program} {l : Launch} {e : Env} {R : Room} {s : State} {m : MethodId} {args : Array Value} {below : List Frame} {meth : Method} {c : Code} {H : Heap} {locs : List Loc} {cells slots : Nat} {Q : State → Prop} {cc : ByteArray}
variable {D : va_G} {cl : List vw_C} {tys : List (ClassId × FieldType)} {A : Nat → Prop} {wsR ws : va_W} {oc own : String} {dfl : Nat → Nat} {tyf : Nat → Nat → FieldType} {W0 WN : List Jvm.Cond} {mt : List ev_Me}
set_option maxHeartbeats 8000000 in
theorem ev_stK_ok {ka : ev_KA} {callf : Nat → List Nat → ev_H → Option ev_A} {d ls0 : Nat} (hx : p.tables.exec = Jvm.exec) (hb : c.code = cc) (hml : c.maxLocals = ls0) (hW0 : ∀ w ∈ W0, w.before args s = true) (hG : ∀ w ∈ W0, goodWord w = true) (hown : s.vm.findClass own = some m.cls) (hC : ev_Cls W0 cl tyf) (hRO : ev_RO D cl A s.heap wsR) (hA : ∀ q, s.heap.size ≤ q → A q) (hRA : ∀ (k : Nat) (q : Nat × va_E), wsR[k]? = some q → ¬ A q.1) (hRD : va_D (fun _ => True) wsR)
    (hcal : ev_Cal l D cl dfl tyf ka oc W0 WN mt wsR d callf) (hNw : ∀ w ∈ WN, ev_isNest w = true → va_Nw w s) (hRf : d + 1 ≤ R.frames) (hRl : 64 * (d + 1) ≤ R.locals) (hCF : ev_CF dfl tyf ka A s) (hc1 : ∃ T1 : u_T, cl[1]? = some ("java/lang/String", T1, 2))
    {i : Instr} {n0 a b t pc pc' nc ns nc' ns' : Nat} {L st L' st' ads : List Nat} {h h' : ev_H} {ls : Array Slot} {vs : List Value} (hd : decode cc pc = .ok (i, ev_len i n0)) (hlk : ev_lkK cl dfl tyf oc own args s i a b t) (hlc : ev_pre i a t = false → ev_lkC W0 cl mt own args s i a b t)
    (hs : ev_stK wsR.length dfl callf i a b t pc L st h nc ns = some ((pc', L', st'), h', nc', ns')) (hL : ev_L ka ads ls0 L ls) (hS : ev_S ka ads st vs) (hM : ev_M ka oc tys ads h (wsR ++ ws)) (hK : va_K D cl tys s) (hWd : ev_W D cl A s.heap wsR ws H locs)
    (hrc : nc' ≤ R.cells) (hrs : ns' ≤ R.slots)
    (kk : ∀ (ls' : Array Slot) (vs' : List Value) (t2 : List (ClassId × FieldType)) (l2 : List Nat) (ws' : va_W) (H' : Heap) (locs' : List Loc), ev_L ka (ads ++ l2) ls0 L' ls' → ev_S ka (ads ++ l2) st' vs' → ev_M ka oc (tys ++ t2) (ads ++ l2) h' (wsR ++ ws') → va_K D cl (tys ++ t2) s → ev_W D cl A s.heap wsR ws' H' locs' → W p l e R s m args below meth c H' locs' nc' ns' Q (F0 m pc' ls' vs')) :
    W p l e R s m args below meth c H locs nc ns Q (F0 m pc ls vs) := by
  obtain ⟨hP, hD, hSS⟩ := id hWd
  have hsz : ls.size = ls0 := by obtain ⟨_, lv, g1, _⟩ := hL; exact g1.1
  have kk0 : ∀ (ls' : Array Slot) (vs' : List Value) (ws' : va_W) (H' : Heap) (locs' : List Loc), ev_L ka ads ls0 L' ls' → ev_S ka ads st' vs' → ev_M ka oc tys ads h' (wsR ++ ws') → ev_W D cl A s.heap wsR ws' H' locs' → W p l e R s m args below meth c H' locs' nc' ns' Q (F0 m pc' ls' vs') := by
    intro ls' vs' ws' H' locs' g1 g2 g3 g4
    refine kk ls' vs' [] [] ws' H' locs' ?_ ?_ ?_ ?_ g4 <;> simpa using by assumption
  have wr : ∀ {q k : Nat} {e0 e' : va_E} {x x' : ev_C} {H1 : Heap} {locs1 : List Loc}, h[k]? = some x → ads[k]? = some q → (wsR ++ ws)[k]? = some (q, e0) → wsR.length ≤ k → h' = h.set k x' → ev_E ka oc tys ads x' e' → va_P D cl (ws.set (k - wsR.length) (q, e')) H1 → va_D A (ws.set (k - wsR.length) (q, e')) → va_S A s.heap H1 locs1 →
      ev_M ka oc tys ads h' (wsR ++ ws.set (k - wsR.length) (q, e')) ∧ ev_W D cl A s.heap wsR (ws.set (k - wsR.length) (q, e')) H1 locs1 := by
    intro q k e0 e' x x' H1 locs1 g1 g2 g3 g4 g5 g6 g7 g8 g9
    refine ⟨?_, (hRO H1 locs1 g9).app g7, g8, g9⟩
    rw [ev_setR g4, g5]
    exact hM.set g1 g2 g6
  cases i with
  | aload n =>
    simp only [ev_stK] at hs
    split at hs
    · rename_i f hf
      simp only [Option.some.injEq, Prod.mk.injEq] at hs
      obtain ⟨rfl, rfl, rfl, rfl⟩ := hs
      obtain ⟨x, v, h1, h2, h3, rfl, rfl, rfl⟩ := ev_ldK_ok hf hL
      rcases h3 with rfl | ⟨q, rfl⟩
      · exact lv_aloadN hx hb hd h1 (kk0 _ _ _ _ _ hL ⟨h2, hS⟩ hM hWd)
      · exact lv_aload hx hb hd h1 (kk0 _ _ _ _ _ hL ⟨h2, hS⟩ hM hWd)
    · cases hs
  | aload_n n =>
    simp only [ev_stK] at hs
    split at hs
    · rename_i f hf
      simp only [Option.some.injEq, Prod.mk.injEq] at hs
      obtain ⟨rfl, rfl, rfl, rfl⟩ := hs
      obtain ⟨x, v, h1, h2, h3, rfl, rfl, rfl⟩ := ev_ldK_ok hf hL
      rcases h3 with rfl | ⟨q, rfl⟩
      · exact lv_aload_nN hx hb hd rfl h1 (kk0 _ _ _ _ _ hL ⟨h2, hS⟩ hM hWd)
      · exact lv_aload_n hx hb hd rfl h1 (kk0 _ _ _ _ _ hL ⟨h2, hS⟩ hM hWd)
    · cases hs
  | getfield idx =>
    simp only [ev_stK] at hs
    split at hs
    · rename_i r st0
      cases hq : (ev_isK r && Nat.beq a 1)
      · rw [hq, cond_false] at hs; cases hs
      rw [hq, cond_true] at hs
      simp only [Bool.and_eq_true] at hq
      obtain ⟨v1, r1, rfl, h3, h4⟩ := hS.cons
      obtain ⟨q, hq1, rfl⟩ := h3.kK hq.1
      obtain ⟨c1, c2, c3, c4, c5⟩ := hCF.2.1 _ q hq1
      have ha := Nat.eq_of_beq_eq_true hq.2
      have hr := ev_isK_s hq.1
      cases hb0 : Nat.beq b 0
      · rw [hb0, cond_false] at hs
        cases hb1 : Nat.beq b 1
        · rw [hb1, cond_false] at hs; cases hs
        rw [hb1, cond_true] at hs
        simp only [Option.some.injEq, Prod.mk.injEq] at hs
        obtain ⟨⟨rfl, rfl, rfl⟩, rfl, rfl, rfl⟩ := hs
        have hbb := Nat.eq_of_beq_eq_true hb1
        subst hbb
        exact vk_getf hx hb c2 hSS hown (hlk ha (by omega)) (fun _ z => z) hd (kk0 _ _ _ _ _ hL ⟨.int (x := 0) (by decide), h4⟩ hM hWd)
      · rw [hb0, cond_true] at hs
        simp only [Option.some.injEq, Prod.mk.injEq] at hs
        obtain ⟨⟨rfl, rfl, rfl⟩, rfl, rfl, rfl⟩ := hs
        have hbb := Nat.eq_of_beq_eq_true hb0
        subst hbb
        refine vk_getf hx hb c3 hSS hown (hlk ha (by omega)) (fun _ z => z) hd (kk0 _ _ _ _ _ hL ⟨?_, h4⟩ hM hWd)
        exact Or.inr (Or.inr (Or.inr (Or.inr (Or.inr (Or.inl ⟨r - 92233720368547758080, q, by omega, by omega, hq1, rfl⟩)))))
    · cases hs
  | arraylength =>
    simp only [ev_stK] at hs
    split at hs
    · rename_i r st0
      obtain ⟨h1, h2⟩ := ev_bif2 hs
      simp only [Bool.and_eq_true] at h1
      simp only [Prod.mk.injEq] at h2
      obtain ⟨⟨rfl, rfl, rfl⟩, rfl, rfl, rfl⟩ := h2
      obtain ⟨v1, r1, rfl, h3, h4⟩ := hS.cons
      obtain ⟨q, hq1, rfl⟩ := h3.kA h1.1
      obtain ⟨c1, c2, c3, c4, c5⟩ := hCF.2.1 _ q hq1
      have hlt := Nat.blt_eq.mp h1.2
      exact va_tlen hx hb c4 hSS rfl hd (kk0 _ _ _ _ _ hL ⟨.int (by omega), h4⟩ hM hWd)
    · cases hs
  | baload =>
    simp only [ev_stK] at hs
    split at hs
    · rename_i j r st0
      obtain ⟨h1, h2⟩ := ev_bif2 hs
      simp only [Bool.and_eq_true] at h1
      simp only [Prod.mk.injEq] at h2
      obtain ⟨⟨rfl, rfl, rfl⟩, rfl, rfl, rfl⟩ := h2
      obtain ⟨g1, g2, g3, g4, g5⟩ := h1
      obtain ⟨v0, r0, rfl, i3, i4⟩ := hS.cons
      obtain ⟨v1, r1, rfl, h3, h4⟩ := i4.cons
      obtain ⟨rfl, hj⟩ := i3.i g2
      obtain ⟨q, hq1, rfl⟩ := h3.kA g1
      obtain ⟨c1, c2, c3, c4, c5⟩ := hCF.2.1 _ q hq1
      have hlt := Nat.blt_eq.mp g3
      have hlt2 := Nat.blt_eq.mp g4
      refine va_tb hx hb c4 hSS (vp_in_nI hlt (by omega)) (v := .int (nI (ev_at (dfl (2000 + (r - 110680464442257309696))) j))) ?_ hd (kk0 _ _ _ _ _ hL ⟨.int (ev_isI_s g5), h4⟩ hM hWd)
      show Value.int _ = _
      rw [nI_clamp (by omega)]
    · cases hs
  | ldc idx =>
    simp only [ev_stK] at hs
    obtain ⟨h1, h2⟩ := ev_bif2 hs
    simp only [Bool.and_eq_true] at h1
    simp only [Prod.mk.injEq] at h2
    obtain ⟨⟨rfl, rfl, rfl⟩, rfl, rfl, rfl⟩ := h2
    have hr := ev_isK_s h1.1
    have hlt := Nat.blt_eq.mp h1.2
    rw [← hCF.1] at hlt
    have hq1 : ka[a - 92233720368547758080]? = some (ka[a - 92233720368547758080]) := List.getElem?_eq_getElem hlt
    obtain ⟨c1, c2, c3, c4, c5⟩ := hCF.2.1 _ _ hq1
    obtain ⟨k1, k2⟩ := hlk h1.1
    rw [← k1, ← k2] at c5
    refine va_ldcS hx hb hown c5 hd (kk0 _ _ _ _ _ hL ⟨?_, hS⟩ hM hWd)
    exact Or.inr (Or.inr (Or.inr (Or.inr (Or.inl ⟨a - 92233720368547758080, _, by omega, by omega, hq1, rfl⟩))))
  | getstatic idx =>
    simp only [ev_stK] at hs
    obtain ⟨h1, h2⟩ := ev_bif2 hs
    simp only [Bool.or_eq_true] at h1
    simp only [Prod.mk.injEq] at h2
    obtain ⟨⟨rfl, rfl, rfl⟩, rfl, rfl, rfl⟩ := h2
    rcases h1 with h1 | h1
    · have ha := Nat.eq_of_beq_eq_true h1
      subst ha
      exact va_gets hx hb hCF.2.2.1 hSS hown (hlk.1 rfl) (fun _ z => z) hd (kk0 _ _ _ _ _ hL ⟨.int (x := 1) (by decide), hS⟩ hM hWd)
    · have hl := hlk.2 h1
      have ha := Nat.eq_of_beq_eq_true (show Nat.beq a 129127208515966861312 = true from h1)
      rcases hCF.2.2.2.1 with hz | ⟨tt, hz⟩
      · exact va_gets hx hb hz hSS hown hl (fun _ z => z) hd (kk0 _ _ _ _ _ hL ⟨Or.inr (Or.inr (Or.inr (Or.inr (Or.inr (Or.inr ⟨ha, Or.inl rfl⟩))))), hS⟩ hM hWd)
      · exact va_gets hx hb hz hSS hown hl (fun _ z => z) hd (kk0 _ _ _ _ _ hL ⟨Or.inr (Or.inr (Or.inr (Or.inr (Or.inr (Or.inr ⟨ha, Or.inr ⟨tt, rfl⟩⟩))))), hS⟩ hM hWd)
  | ishr =>
    simp only [ev_stK] at hs
    split at hs
    · rename_i y x r
      obtain ⟨h1, h2⟩ := ev_bif2 hs
      simp only [Bool.and_eq_true] at h1
      simp only [Prod.mk.injEq] at h2
      obtain ⟨⟨rfl, rfl, rfl⟩, rfl, rfl, rfl⟩ := h2
      have hy := Nat.eq_of_beq_eq_true h1.1
      subst hy
      obtain ⟨v0, r0, rfl, i3, i4⟩ := hS.cons
      obtain ⟨v1, r1, rfl, h3, h4⟩ := i4.cons
      obtain ⟨rfl, _⟩ := i3.i (show ev_isI 0 = true from rfl)
      obtain ⟨rfl, hxl⟩ := h3.i h1.2
      refine lv_ishr hx hb hd ?_
      rw [ev_shr0]
      exact kk0 _ _ _ _ _ hL ⟨.int hxl, h4⟩ hM hWd
    · cases hs
  | lshr =>
    simp only [ev_stK] at hs
    split at hs
    · rename_i y x r
      obtain ⟨h1, h2⟩ := ev_bif2 hs
      simp only [Bool.and_eq_true] at h1
      simp only [Prod.mk.injEq] at h2
      obtain ⟨⟨rfl, rfl, rfl⟩, rfl, rfl, rfl⟩ := h2
      obtain ⟨v0, r0, rfl, i3, i4⟩ := hS.cons
      obtain ⟨v1, r1, rfl, h3, h4⟩ := i4.cons
      obtain ⟨rfl, _⟩ := i3.i h1.1
      obtain ⟨rfl, _⟩ := h3.l h1.2
      refine lv_lshr hx hb hd rfl ?_
      refine kk0 _ _ _ _ _ hL ⟨?_, h4⟩ hM hWd
      have := ev_v.long (ka := ka) (ads := ads) (n := ((lN (x - 18446744073709551616)) >>> ((nI y).toInt64 &&& 63)).toBitVec.toNat) (BitVec.isLt _)
      rw [ev_lNof] at this
      exact this
    · cases hs
  | lor =>
    simp only [ev_stK] at hs
    split at hs
    · rename_i y x r
      obtain ⟨h1, h2⟩ := ev_bif2 hs
      simp only [Bool.and_eq_true] at h1
      simp only [Prod.mk.injEq] at h2
      obtain ⟨⟨rfl, rfl, rfl⟩, rfl, rfl, rfl⟩ := h2
      obtain ⟨v0, r0, rfl, i3, i4⟩ := hS.cons
      obtain ⟨v1, r1, rfl, h3, h4⟩ := i4.cons
      obtain ⟨rfl, hyl⟩ := i3.l h1.1
      obtain ⟨rfl, hxl⟩ := h3.l h1.2
      refine lv_lor hx hb hd ?_
      refine kk0 _ _ _ _ _ hL ⟨?_, h4⟩ hM hWd
      have := ev_v.long (ka := ka) (ads := ads) (n := ((lN (x - 18446744073709551616)) ||| (lN (y - 18446744073709551616))).toBitVec.toNat) (BitVec.isLt _)
      rw [ev_lNof] at this
      exact this
    · cases hs
  | lshl =>
    simp only [ev_stK] at hs
    split at hs
    · rename_i y x r
      obtain ⟨h1, h2⟩ := ev_bif2 hs
      simp only [Bool.and_eq_true] at h1
      simp only [Prod.mk.injEq] at h2
      obtain ⟨⟨rfl, rfl, rfl⟩, rfl, rfl, rfl⟩ := h2
      obtain ⟨v0, r0, rfl, i3, i4⟩ := hS.cons
      obtain ⟨v1, r1, rfl, h3, h4⟩ := i4.cons
      obtain ⟨rfl, hyl⟩ := i3.i h1.1
      obtain ⟨rfl, hxl⟩ := h3.l h1.2
      refine lv_lshl hx hb hd rfl ?_
      refine kk0 _ _ _ _ _ hL ⟨?_, h4⟩ hM hWd
      have := ev_v.long (ka := ka) (ads := ads) (n := ((lN (x - 18446744073709551616)) <<< ((nI y).toInt64 &&& 63)).toBitVec.toNat) (BitVec.isLt _)
      rw [ev_lNof] at this
      exact this
    · cases hs
  | ldiv =>
    simp only [ev_stK] at hs
    split at hs
    · rename_i y x r
      obtain ⟨h1, h2⟩ := ev_bif2 hs
      simp only [Bool.and_eq_true] at h1
      simp only [Prod.mk.injEq] at h2
      obtain ⟨⟨rfl, rfl, rfl⟩, rfl, rfl, rfl⟩ := h2
      obtain ⟨v0, r0, rfl, i3, i4⟩ := hS.cons
      obtain ⟨v1, r1, rfl, h3, h4⟩ := i4.cons
      obtain ⟨rfl, hyl⟩ := i3.l h1.1
      obtain ⟨rfl, hxl⟩ := h3.l h1.2.1
      have hne := ev_lNne (x := y) h1.1 h1.2.2
      refine lv_ldiv hx hb hd hne ?_
      refine kk0 _ _ _ _ _ hL ⟨?_, h4⟩ hM hWd
      have := ev_v.long (ka := ka) (ads := ads) (n := ((lN (x - 18446744073709551616)) / (lN (y - 18446744073709551616))).toBitVec.toNat) (BitVec.isLt _)
      rw [ev_lNof] at this
      exact this
    · cases hs
  | lrem =>
    simp only [ev_stK] at hs
    split at hs
    · rename_i y x r
      obtain ⟨h1, h2⟩ := ev_bif2 hs
      simp only [Bool.and_eq_true] at h1
      simp only [Prod.mk.injEq] at h2
      obtain ⟨⟨rfl, rfl, rfl⟩, rfl, rfl, rfl⟩ := h2
      obtain ⟨v0, r0, rfl, i3, i4⟩ := hS.cons
      obtain ⟨v1, r1, rfl, h3, h4⟩ := i4.cons
      obtain ⟨rfl, hyl⟩ := i3.l h1.1
      obtain ⟨rfl, hxl⟩ := h3.l h1.2.1
      have hne := ev_lNne (x := y) h1.1 h1.2.2
      refine lv_lrem hx hb hd hne ?_
      refine kk0 _ _ _ _ _ hL ⟨?_, h4⟩ hM hWd
      have := ev_v.long (ka := ka) (ads := ads) (n := ((lN (x - 18446744073709551616)) - (lN (x - 18446744073709551616)) / (lN (y - 18446744073709551616)) * (lN (y - 18446744073709551616))).toBitVec.toNat) (BitVec.isLt _)
      rw [ev_lNof] at this
      exact this
    · cases hs
  | idiv =>
    simp only [ev_stK] at hs
    split at hs
    · rename_i y x r
      obtain ⟨h1, h2⟩ := ev_bif2 hs
      simp only [Bool.and_eq_true] at h1
      simp only [Prod.mk.injEq] at h2
      obtain ⟨⟨rfl, rfl, rfl⟩, rfl, rfl, rfl⟩ := h2
      obtain ⟨v0, r0, rfl, i3, i4⟩ := hS.cons
      obtain ⟨v1, r1, rfl, h3, h4⟩ := i4.cons
      obtain ⟨rfl, hyl⟩ := i3.i h1.1
      obtain ⟨rfl, hxl⟩ := h3.i h1.2.1
      have hne := ev_nIne (x := y) h1.1 h1.2.2
      refine lv_idiv hx hb hd hne ?_
      refine kk0 _ _ _ _ _ hL ⟨?_, h4⟩ hM hWd
      have := ev_v.int (ka := ka) (ads := ads) (x := ((nI x) / (nI y)).toBitVec.toNat) (BitVec.isLt _)
      rw [ev_nIof] at this
      exact this
    · cases hs
  | irem =>
    simp only [ev_stK] at hs
    split at hs
    · rename_i y x r
      obtain ⟨h1, h2⟩ := ev_bif2 hs
      simp only [Bool.and_eq_true] at h1
      simp only [Prod.mk.injEq] at h2
      obtain ⟨⟨rfl, rfl, rfl⟩, rfl, rfl, rfl⟩ := h2
      obtain ⟨v0, r0, rfl, i3, i4⟩ := hS.cons
      obtain ⟨v1, r1, rfl, h3, h4⟩ := i4.cons
      obtain ⟨rfl, hyl⟩ := i3.i h1.1
      obtain ⟨rfl, hxl⟩ := h3.i h1.2.1
      have hne := ev_nIne (x := y) h1.1 h1.2.2
      refine lv_irem hx hb hd hne ?_
      refine kk0 _ _ _ _ _ hL ⟨?_, h4⟩ hM hWd
      have := ev_v.int (ka := ka) (ads := ads) (x := ((nI x) - (nI x) / (nI y) * (nI y)).toBitVec.toNat) (BitVec.isLt _)
      rw [ev_nIof] at this
      exact this
    · cases hs
  | lneg =>
    simp only [ev_stK] at hs
    split at hs
    · rename_i x r
      obtain ⟨h1, h2⟩ := ev_bif2 hs
      simp only [Prod.mk.injEq] at h2
      obtain ⟨⟨rfl, rfl, rfl⟩, rfl, rfl, rfl⟩ := h2
      obtain ⟨v1, r1, rfl, h3, h4⟩ := hS.cons
      obtain ⟨rfl, hxl⟩ := h3.l h1
      refine lv_lneg hx hb hd ?_
      refine kk0 _ _ _ _ _ hL ⟨?_, h4⟩ hM hWd
      have := ev_v.long (ka := ka) (ads := ads) (n := (-(lN (x - 18446744073709551616))).toBitVec.toNat) (BitVec.isLt _)
      rw [ev_lNof] at this
      exact this
    · cases hs
  | lookupswitch dflt ps =>
    simp only [ev_stK] at hs
    split at hs
    · rename_i x r
      cases hq : (ev_isI x && (ps.toList.zip (ps.toList.drop 1)).all (fun (a, next) => a.1 < next.1))
      · rw [hq, cond_false] at hs; cases hs
      rw [hq, cond_true] at hs
      simp only [Bool.and_eq_true] at hq
      split at hs
      · rename_i f hf
        simp only [Option.some.injEq, Prod.mk.injEq] at hs
        obtain ⟨rfl, rfl, rfl, rfl⟩ := hs
        unfold ev_sw at hf
        obtain ⟨h1, h2⟩ := ev_bif2 hf
        have h1 := of_decide_eq_true h1
        simp only [Prod.mk.injEq] at h2
        obtain ⟨rfl, rfl, rfl⟩ := h2
        obtain ⟨v0, r0, rfl, i3, i4⟩ := hS.cons
        obtain ⟨rfl, hxl⟩ := i3.i hq.1
        refine lv_lookup hx hb hd hq.2 (by rw [ev_toS hxl]) (Int.toNat_of_nonneg h1).symm ?_
        exact kk0 _ _ _ _ _ hL i4 hM hWd
      · cases hs
    · cases hs
  | invokevirtual idx =>
    obtain ⟨n, y, bytes, maxL, rt, code, C, T, N, rfl, k1, kc, kt, ⟨k2, k3, k4, k5, k6⟩, k7, k8⟩ := hlc rfl
    simp only [ev_stK] at hs
    have hDD : va_D (fun _ => True) (wsR ++ ws) := va_D.app hRD (hD.weaken (fun _ _ _ _ => trivial)) (fun i j x y hx hy hxy => hRA i x hx (by rw [hxy]; exact hD.2 j y hy))
    have hAB : ∀ q, va_A ws H.size q → A q := by
      intro q h
      rcases h with ⟨k, e, h⟩ | h
      · exact hD.2 k (q, e) h
      · exact hA q (Nat.le_trans hSS.1 h)
    have hpre : ∀ (vs2 : List Value) (U : State), U.heap = H → s.WarmedH U.vm → ev_Pc D cl dfl tyf ka tys WN wsR ws H.size vs2 vs2.toArray U := fun vs2 U hU hW => ⟨rfl, by rw [hU], by rw [hU]; exact hP, va_K.moved hW.alike hK, hDD, fun w hw hn => ev_nest_warm hn hW (hNw w hw hn), hCF.go hW hU hSS hAB⟩
    have hGI : GoodIn W0 (Jvm.Cond.code y bytes maxL rt :: W0) := by
      intro w hw
      rcases List.mem_cons.mp hw with rfl | hw
      · exact ⟨k3, good_of_word (hG _ k3)⟩
      · exact ⟨hw, good_of_word (hG _ hw)⟩
    split at hs
    · rename_i rv rst hdrop
      cases hq : (ev_isK rv && (Nat.beq t 1 && Nat.blt 0 (n + 1)))
      · rw [hq, cond_false] at hs; cases hs
      rw [hq, cond_true] at hs
      simp only [Bool.and_eq_true] at hq
      obtain ⟨h1, h2, h3, h4, ret, mc, ms, h5, h6, h7, h8⟩ := ev_inv_s hs
      obtain ⟨g1, g2, g3, g4⟩ := ev_S.split (n + 1) hS h1
      obtain ⟨bv, As, q1, q2, q3⟩ := ev_listrev g4
      have hM2 := hcal a _ h ret h' mc ms h5 y bytes maxL rt code k1 ads tys ws _ H.size g2.reverse hM
      have hst : vs = As.reverse ++ bv :: vs.drop (n + 1) := g1.trans (by rw [q3, List.append_assoc]; rfl)
      rw [show n + 1 - 1 = n from rfl] at hdrop
      have gv := ev_rcv hS h1 hdrop q2 hst
      obtain ⟨q, hq1, rfl⟩ := gv.kK hq.1
      obtain ⟨T1, e1⟩ := hc1
      have ht1 := Nat.eq_of_beq_eq_true hq.2.1
      rw [ht1, e1] at kc
      cases kc
      have hrecv : ∃ cell : Cell, H[q.1]? = some cell ∧ cell.vm.isStatics = false ∧ s.vm.findClass "java/lang/String" = some cell.cls := by
        obtain ⟨cell, c1, c2, c3, -⟩ := (hCF.2.1 _ q hq1).1.kept hSS.2.1
        exact ⟨cell, c1, c2, c3⟩
      rw [q1] at hM2
      rw [← ev_cat_ok g3] at h2
      have hR : ({ frames := d, cells := mc, slots := ms, locals := 64 * d } : Room).frames + 1 ≤ R.frames ∧ 8 + (maxL + 11) + ({ frames := d, cells := mc, slots := ms, locals := 64 * d } : Room).locals ≤ R.locals := by
        refine ⟨hRf, ?_⟩
        show 8 + (maxL + 11) + 64 * d ≤ R.locals
        omega
      have hmon : 2 * (F0 m pc ls vs).monitorRoom + ((vs.drop (n + 1)).map fun v => v.category).sum ≤ 8 := by
        show 2 * 0 + _ ≤ 8
        omega
      subst h3; subst h4; subst h6; subst h7; subst h8
      refine ev_back (ret := ret) (a := (Value.ref q.1 :: As).toArray) ?_ rfl hD hSS hA (fun l2 t2 ws' v H' locs' g1 g2 g3' g4 => kk ls _ t2 l2 ws' H' locs' hL.mono (g1.S (ev_S.split (n + 1) hS h1).2.2.1.mono) g2 g3' g4)
      rcases k6 with k6 | ⟨host, k6⟩
      · exact va_runV (As := As) (C := "java/lang/String") ⟨hx, hb, hml, hown, hW0⟩ hM2 ⟨callB_of n hW0 hGI rfl rfl rfl k4 k6 k5 hR, k7, k8⟩ ⟨ev_Pc.blind, hrecv, fun U hU hW => hpre _ U hU hW⟩ rfl q2 hsz hst hmon hd ⟨by omega, by omega⟩
      · exact va_runVN (As := As) (C := "java/lang/String") ⟨hx, hb, hml, hown, hW0⟩ hM2 ⟨va_cnB n hW0 hGI rfl rfl rfl k6 k4 k5 hR, k7, k8⟩ ⟨ev_Pc.blind, hrecv, fun U hU hW => hpre _ U hU hW⟩ rfl q2 hsz hst hmon hd ⟨by omega, by omega⟩
    · cases hs
  | invokestatic idx =>
    simp only [ev_stK] at hs
    cases har : (Nat.ble 997 a && Nat.ble a 999)
    · rw [har, cond_false] at hs; cases hs
    rw [har, cond_true] at hs
    simp only [Bool.and_eq_true] at har
    have har1 := Nat.le_of_ble_eq_true har.1
    have har2 := Nat.le_of_ble_eq_true har.2
    cases ha0 : Nat.beq a 999
    · rw [ha0, cond_false] at hs
      have hne : a ≠ 999 := fun e => by rw [e] at ha0; cases ha0
      unfold ev_mm at hs
      split at hs
      · rename_i y x r
        obtain ⟨h1, h2⟩ := ev_bif2 hs
        simp only [Bool.and_eq_true] at h1
        simp only [Prod.mk.injEq] at h2
        obtain ⟨⟨rfl, rfl, e3⟩, rfl, rfl, rfl⟩ := h2
        obtain ⟨v0, r0, rfl, i3, i4⟩ := hS.cons
        obtain ⟨v1, r1, rfl, h3, h4⟩ := i4.cons
        obtain ⟨rfl, hyl⟩ := i3.i h1.1
        obtain ⟨rfl, hxl⟩ := h3.i h1.2.1
        have hcat : (r1.map fun v => v.category).sum ≤ 8 := by rw [ev_cat_ok h4]; exact Nat.le_of_ble_eq_true h1.2.2
        rcases (show a = 998 ∨ a = 997 by omega) with ha | ha
        · obtain ⟨k1, k2, k3, k4⟩ := hlk.1 ha
          refine va_mmin hx hb (hml.trans hsz.symm) hown k1 k2 k3 k4 (by omega) (by omega) hrc hrs hd ?_
          rw [ha, show Nat.beq 998 997 = false from rfl, cond_false] at e3
          have e4 : (if nI y < nI x then nI y else nI x) = nI (bif Nat.blt (ev_s y) (ev_s x) then y else x) := by
            cases hq : Nat.blt (ev_s y) (ev_s x)
            · rw [if_neg (fun z => by rw [Nat.blt_eq.mpr ((ev_ltI hyl hxl).mp z)] at hq; cases hq), cond_false]
            · rw [if_pos ((ev_ltI hyl hxl).mpr (Nat.blt_eq.mp hq)), cond_true]
          rw [e4]
          refine kk0 _ _ _ _ _ hL ?_ hM hWd
          rw [← e3]
          refine ⟨?_, h4⟩
          cases Nat.blt (ev_s y) (ev_s x)
          · rw [cond_false]; exact .int hxl
          · rw [cond_true]; exact .int hyl
        · obtain ⟨k1, k2, k3, k4⟩ := hlk.2.1 ha
          refine va_mmax hx hb (hml.trans hsz.symm) hown k1 k2 k3 k4 (by omega) (by omega) hrc hrs hd ?_
          rw [ha, show Nat.beq 997 997 = true from rfl, cond_true] at e3
          have e4 : (if nI x < nI y then nI y else nI x) = nI (bif Nat.blt (ev_s x) (ev_s y) then y else x) := by
            cases hq : Nat.blt (ev_s x) (ev_s y)
            · rw [if_neg (fun z => by rw [Nat.blt_eq.mpr ((ev_ltI hxl hyl).mp z)] at hq; cases hq), cond_false]
            · rw [if_pos ((ev_ltI hxl hyl).mpr (Nat.blt_eq.mp hq)), cond_true]
          rw [e4]
          refine kk0 _ _ _ _ _ hL ?_ hM hWd
          rw [← e3]
          refine ⟨?_, h4⟩
          cases Nat.blt (ev_s x) (ev_s y)
          · rw [cond_false]; exact .int hxl
          · rw [cond_true]; exact .int hyl
      · cases hs
    rw [ha0, cond_true] at hs
    obtain ⟨k1, k2, k3, k4⟩ := hlk.2.2 (Nat.eq_of_beq_eq_true ha0)
    unfold ev_cpy at hs
    split at hs
    · rename_i n dp dd sp s0 st0
      split at hs
      · rename_i x ho
        cases hq : (Nat.beq x.1 1001 && (Nat.ble wsR.length (dd - 36893488147419103232) && (Nat.ble (dp + n) x.2.1 && (Nat.blt x.2.1 2147483648 && Nat.ble (ev_cat st0) 8))))
        · rw [hq, cond_false] at hs; cases hs
        rw [hq, cond_true] at hs
        simp only [Bool.and_eq_true] at hq
        obtain ⟨x1, x2, x3, x4, x5⟩ := hq
        have x1 := Nat.eq_of_beq_eq_true x1
        have x2 := Nat.le_of_ble_eq_true x2
        have x3 := Nat.le_of_ble_eq_true x3
        have x4 := Nat.blt_eq.mp x4
        have x5 := Nat.le_of_ble_eq_true x5
        obtain ⟨w1, r1, rfl, i1, j1⟩ := hS.cons
        obtain ⟨w2, r2, rfl, i2, j2⟩ := j1.cons
        obtain ⟨w3, r3, rfl, i3, j3⟩ := j2.cons
        obtain ⟨w4, r4, rfl, i4, j4⟩ := j3.cons
        obtain ⟨w5, r5, rfl, i5, j5⟩ := j4.cons
        obtain ⟨rfl, _⟩ := i1.i (show ev_isI n = true from Nat.blt_eq.mpr (by omega))
        obtain ⟨rfl, _⟩ := i2.i (show ev_isI dp = true from Nat.blt_eq.mpr (by omega))
        obtain ⟨qd, ed, y1, rfl, y3, y4, y5⟩ := hM.o ho i3
        obtain ⟨td, cd, fd, f1, rfl, f2⟩ := y5.ints (by omega) (by omega)
        have f1' := f1
        rw [x1] at f1'
        have hcat : (r5.map fun v => v.category).sum ≤ 8 := by rw [ev_cat_ok j5]; exact x5
        have hnf : nativeFrameWords "java/lang/System" "arraycopy" 5 = 7 := by decide +kernel
        have hloc : (r5.map fun v => v.category).sum + (nativeFrameWords "java/lang/System" "arraycopy" 5 + 11) ≤ R.locals := by rw [hnf]; omega
        have hfr : 1 ≤ R.frames := by omega
        have fin : ∀ (B : Nat) (f : Nat → Int32) (hf : ∀ j, j < n → ev_b8 (ev_at B (sp + j)) = ev_at B (sp + j)) (hff : ∀ j, j < n → f (sp + j) = nI (ev_at B (sp + j))), ev_E ka oc tys ads (x.1, x.2.1, ev_cpN x.2.2 B dp sp n) (.inl (cd, x.2.1, .inl (va_cpy f fd sp dp n))) := by
          intro B f hf hff
          refine Or.inr (Or.inl ⟨by rw [x1]; decide, by rw [x1]; decide, td, cd, _, f1, rfl, fun j hj => ?_⟩)
          show ev_at (ev_cpN x.2.2 B dp sp n) j < 4294967296 ∧ va_cpy f fd sp dp n j = nI (ev_at (ev_cpN x.2.2 B dp sp n) j)
          rw [ev_cpN_at]
          unfold va_cpy
          by_cases hj2 : dp ≤ j ∧ j < dp + n
          · rw [if_pos hj2, if_pos hj2]
            exact ⟨by rw [← hf (j - dp) (by omega)]; exact ev_b8_lt _, hff (j - dp) (by omega)⟩
          · rw [if_neg hj2, if_neg hj2]
            exact f2 j hj
        cases hA0 : ev_isA s0
        · rw [hA0, cond_false] at hs
          split at hs
          · rename_i y hoy
            obtain ⟨h1, h2⟩ := ev_bif2 hs
            simp only [Bool.and_eq_true] at h1
            simp only [Prod.mk.injEq] at h2
            obtain ⟨⟨rfl, rfl, rfl⟩, e5, rfl, rfl⟩ := h2
            obtain ⟨z1, z2, z3, z4, z5⟩ := h1
            have z1 := Nat.eq_of_beq_eq_true z1
            have z2 := Nat.le_of_ble_eq_true z2
            have z3 := Nat.le_of_ble_eq_true z3
            have z4 := Nat.blt_eq.mp z4
            have z5 := ev_all8_ok n z5
            obtain ⟨rfl, _⟩ := i4.i (show ev_isI sp = true from Nat.blt_eq.mpr (by omega))
            obtain ⟨qs, es, u1, rfl, u3, u4, u5⟩ := hM.o hoy i5
            obtain ⟨ts, cs, fs, v1, rfl, v2⟩ := u5.ints (by omega) (by omega)
            have v1' := v1
            rw [z1] at v1'
            have hc1 : (nI sp).toNatClampNeg = sp := nI_clamp (by omega)
            have hc2 : (nI dp).toNatClampNeg = dp := nI_clamp (by omega)
            have hc3 : (nI n).toNatClampNeg = n := nI_clamp (by omega)
            refine va_copyi hx hb (hml.trans hsz.symm) hown k1 k2 k3 k4 hK hP.ev_r hD hSS _ _ ts td (ev_right u4 z2) (ev_right y4 x2) v1' f1' rfl (nI_pos (by omega)) (nI_pos (by omega)) (nI_pos (by omega)) (by rw [hc1, hc3]; exact z3) (by rw [hc2, hc3]; exact x3) (fun j hj => ?_) hfr hloc hd (fun H1 locs1 m1 m2 m3 => ?_)
            · rw [hc1, (v2 (sp + j) (by rw [hc3] at hj; omega)).2]
              exact ev_fits8b (z5 j (by rw [hc3] at hj; exact hj))
            · rw [hc1, hc2, hc3] at m1 m2
              obtain ⟨n1, n2⟩ := wr y1 y3 y4 x2 e5.symm (fin y.2.2 fs z5 (fun j hj => (v2 (sp + j) (by omega)).2)) m1 m2 m3
              exact kk0 _ _ _ _ _ hL j5 n1 n2
          · cases hs
        · rw [hA0, cond_true] at hs
          obtain ⟨h1, h2⟩ := ev_bif2 hs
          simp only [Bool.and_eq_true] at h1
          simp only [Prod.mk.injEq] at h2
          obtain ⟨⟨rfl, rfl, rfl⟩, e5, rfl, rfl⟩ := h2
          obtain ⟨z3, z4, z5⟩ := h1
          have z3 := Nat.le_of_ble_eq_true z3
          have z4 := Nat.blt_eq.mp z4
          have z5 := ev_all8_ok n z5
          obtain ⟨rfl, _⟩ := i4.i (show ev_isI sp = true from Nat.blt_eq.mpr (by omega))
          obtain ⟨q, hq1, rfl⟩ := i5.kA hA0
          obtain ⟨c1, c2, c3, c4, c5⟩ := hCF.2.1 _ q hq1
          have hc1 : (nI sp).toNatClampNeg = sp := nI_clamp (by omega)
          have hc2 : (nI dp).toNatClampNeg = dp := nI_clamp (by omega)
          have hc3 : (nI n).toNatClampNeg = n := nI_clamp (by omega)
          refine vk_copyt hx hb (hml.trans hsz.symm) hown k1 k2 k3 k4 hK hP.ev_r hD hSS (f := fun j => nI (ev_at (dfl (2000 + (s0 - 110680464442257309696))) j)) c4 _ td (ev_right y4 x2) f1' (nI_pos (by omega)) (nI_pos (by omega)) (nI_pos (by omega)) (by rw [hc1, hc3]; exact z3) (by rw [hc2, hc3]; exact x3) (fun j hj => ?_) hfr hloc hd (fun H1 locs1 m1 m2 m3 => ?_)
          · rw [hc1]
            exact ev_fits8b (z5 j (by rw [hc3] at hj; exact hj))
          · rw [hc1, hc2, hc3] at m1 m2
            obtain ⟨n1, n2⟩ := wr y1 y3 y4 x2 e5.symm (fin (dfl (2000 + (s0 - 110680464442257309696))) _ z5 (fun j hj => rfl)) m1 m2 m3
            exact kk0 _ _ _ _ _ hL j5 n1 n2
      · cases hs
    · cases hs
  | new idx =>
    simp only [ev_stK] at hs
    obtain ⟨h1, h2⟩ := ev_bif2 hs
    simp only [Bool.and_eq_true] at h1
    have hl := Nat.blt_eq.mp h1.2
    simp only [Prod.mk.injEq] at h2
    obtain ⟨⟨rfl, rfl, rfl⟩, rfl, rfl, rfl⟩ := h2
    obtain ⟨C, T, T', k1, k2, k3, k4, k5, k6, k7, k8⟩ := hlk (Nat.eq_of_beq_eq_true h1.1)
    refine va_new (fs := (List.range b).map (fun j => defaultValue (tyf a j))) hx hb hW0 (hC.2 a C T b k1).1 (tyf a) (hC.2 a C T b k1).2.1 hown k5 k6 k7 hK hP.ev_r hD hSS hA k1 (fun j hj => ?_) hrc hrs hd (fun q H1 z2 z3 z4 => ?_)
    · unfold vp_V
      simp [List.getD_eq_getElem?_getD, hj]
    · have z2' : va_P D cl (ws ++ [(q, .inr (1, ((List.range b).map (fun j => defaultValue (tyf a j))).take 2))]) H1 := by
        intro k x hk
        by_cases hkl : k < ws.length
        · rw [List.getElem?_append_left hkl] at hk
          exact z2 k x (by rw [List.getElem?_append_left hkl]; exact hk)
        · rw [List.getElem?_append_right (by omega)] at hk
          have hkk : k = ws.length := by
            have := (List.getElem?_eq_some_iff.mp hk).1
            simp at this
            omega
          subst hkk
          simp at hk
          subst hk
          exact ev_alias hK k1 k2 k3 k4 (z2 ws.length _ (by simp))
      have z3' : va_D A (ws ++ [(q, .inr (1, ((List.range b).map (fun j => defaultValue (tyf a j))).take 2))]) := by
        have ad : ∀ (k : Nat) (x : Nat × va_E), (ws ++ [(q, (.inr (1, ((List.range b).map (fun j => defaultValue (tyf a j))).take 2) : va_E))])[k]? = some x → ∃ y : Nat × va_E, (ws ++ [(q, (.inr (a, (List.range b).map (fun j => defaultValue (tyf a j))) : va_E))])[k]? = some y ∧ y.1 = x.1 := by
          intro k x hk
          by_cases hkl : k < ws.length
          · rw [List.getElem?_append_left hkl] at hk
            exact ⟨x, by rw [List.getElem?_append_left hkl]; exact hk, rfl⟩
          · rw [List.getElem?_append_right (by omega)] at hk
            have hkk : k = ws.length := by
              have := (List.getElem?_eq_some_iff.mp hk).1
              simp at this
              omega
            subst hkk
            simp at hk
            subst hk
            exact ⟨(q, .inr (a, (List.range b).map (fun j => defaultValue (tyf a j)))), by simp, rfl⟩
        refine ⟨fun i j x y hx hy hxy => ?_, fun k x hk => ?_⟩
        · obtain ⟨x', a1, a2⟩ := ad i x hx
          obtain ⟨y', b1, b2⟩ := ad j y hy
          exact z3.1 i j x' y' a1 b1 (by rw [a2, b2]; exact hxy)
        · obtain ⟨x', a1, a2⟩ := ad k x hk
          rw [← a2]
          exact z3.2 k x' a1
      refine kk ls _ [] [q] _ H1 locs hL.mono ⟨ev_newv (by omega) hM.1, hS.mono⟩ ?_ (by simpa using hK) ⟨(hRO H1 locs z4).app z2', z3', z4⟩
      rw [← List.append_assoc]
      refine hM.push (Or.inl ⟨(by decide : 1 < 1000), _, rfl, ?_, fun j hj => ?_⟩)
      · simp
        omega
      · have hj2 : j < 2 := hj
        refine ⟨defaultValue (tyf a j), by simp [List.getElem?_take, hj2, show j < b by omega], ?_⟩
        show ev_v ka _ (ev_at (dfl 1) j) _
        rcases k8 j hj2 with ⟨c1, c2⟩ | ⟨c1, c2⟩
        · rw [c2]
          cases hty : tyf a j <;> rw [hty] at c1 <;> simp [ev_tyc] at c1
          · exact .null
          · exact .null
        · rw [c2]
          cases hty : tyf a j <;> rw [hty] at c1 <;> simp [ev_tyc] at c1
          · exact .int (x := 0) (by decide)
          · exact .int (x := 0) (by decide)
          · exact .int (x := 0) (by decide)
  | anewarray idx =>
    simp only [ev_stK] at hs
    split at hs
    · rename_i n st0
      obtain ⟨h1, h2⟩ := ev_bif2 hs
      simp only [Bool.and_eq_true] at h1
      have hn := Nat.le_of_ble_eq_true h1.1
      have hl := Nat.blt_eq.mp h1.2
      simp only [Prod.mk.injEq] at h2
      obtain ⟨⟨rfl, rfl, rfl⟩, rfl, rfl, rfl⟩ := h2
      obtain ⟨v1, r1, rfl, h3, h4⟩ := hS.cons
      obtain ⟨rfl, _⟩ := h3.i (show ev_isI n = true from Nat.blt_eq.mpr (by omega))
      refine va_newq hx hb hown hlk.1 (hlk.2 ▸ hCF.2.2.2.2) hK hP.ev_r hD hSS hA (nI_pos (by omega)) (nI_clamp (by omega)) (by omega) hrc hrs hd (fun q cA H1 z1 z2 z3 z4 => ?_)
      refine kk ls _ [(cA, .object oc)] [q] _ H1 locs hL.mono ⟨ev_newv (by omega) hM.1, h4.mono⟩ ?_ z1 ⟨(hRO H1 locs z4).app z2, z3, z4⟩
      rw [← List.append_assoc]
      refine hM.push (Or.inr (Or.inr (Or.inr ⟨rfl, tys.length, cA, _, by simp, rfl, fun j _ => Or.inl ⟨ev_at_0 j, rfl⟩⟩)))
    · cases hs
  | aastore =>
    simp only [ev_stK] at hs
    split at hs
    · rename_i v j r st0
      split at hs
      · rename_i x ho
        cases hq : (Nat.beq x.1 a && Nat.ble wsR.length (v - 36893488147419103232))
        · rw [hq, cond_false] at hs; cases hs
        rw [hq, cond_true] at hs
        simp only [Bool.and_eq_true] at hq
        have x1 := Nat.eq_of_beq_eq_true hq.1
        have x2 := Nat.le_of_ble_eq_true hq.2
        split at hs
        · rename_i h2 hz
          simp only [Option.some.injEq, Prod.mk.injEq] at hs
          obtain ⟨⟨rfl, rfl, rfl⟩, rfl, rfl, rfl⟩ := hs
          obtain ⟨v0, r0, rfl, i3, i4⟩ := hS.cons
          obtain ⟨v1, r1, rfl, h3, h4⟩ := i4.cons
          obtain ⟨v2, r2, rfl, h5, h6⟩ := h4.cons
          have i3' := i3
          obtain ⟨qv, ev, y1, rfl, y3, y4, y5⟩ := hM.o ho i3
          obtain ⟨q, e0, z, rfl, rfl, g1, g2, g3, g4, g5, g6, g7, g0, e5, g8, g9⟩ := ev_wr_ok hM hz h3 h5
          obtain ⟨t0, cA, f, f1, rfl, f2⟩ := g4.refs g5
          obtain ⟨T, N, kc⟩ := hlk
          have hal : a < 1000 := Nat.lt_of_lt_of_le (List.getElem?_eq_some_iff.mp kc).1 hC.1
          obtain ⟨fs, rfl, -, -⟩ := y5.obj (by omega)
          rw [x1] at y4
          have hvR : ev_isR v = true := by
            cases hr : ev_isR v
            · unfold ev_o at ho; rw [hr, cond_false] at ho; cases ho
            · rfl
          refine va_astq hx hb hK hP.ev_r hD hSS _ t0 _ a (ev_right g3 g0) f1 (ev_right y4 x2) kc g8 hd (fun H1 locs1 z1 z2 z3 => ?_)
          rw [g9] at z1 z2
          refine (fun (hE : ev_E ka oc tys ads (z.1, z.2.1, ev_up z.2.2 j v) (.inl (cA, z.2.1, .inr (.inr (.inr (.inr (va_up f j (some qv)))))))) => ?_) ?_
          · obtain ⟨m1, m2⟩ := wr g1 g2 g3 g0 e5 hE z1 z2 z3
            exact kk0 _ _ _ _ _ hL h6 m1 m2
          · refine Or.inr (Or.inr (Or.inr ⟨g5, t0, cA, _, f1, rfl, fun k hk => ?_⟩))
            show (ev_at (ev_up z.2.2 j v) k = 0 ∧ va_up f j (some qv) k = none) ∨ (ev_isR (ev_at (ev_up z.2.2 j v) k) = true ∧ ev_v ka ads (ev_at (ev_up z.2.2 j v) k) (va_rf (va_up f j (some qv) k)))
            rw [ev_at_up i3'.lt]
            unfold va_up
            by_cases hkj : k = j
            · rw [if_pos hkj, if_pos hkj]
              exact Or.inr ⟨hvR, i3'⟩
            · rw [if_neg hkj, if_neg hkj]
              exact f2 k hk
        · cases hs
      · cases hs
    · cases hs
  | _ => cases hs
end EVX
section EVX2
variable {p : Program} {l : Launch} {e : Env} {R : Room} {s : State} {m : MethodId} {args : Array Value} {below : List Frame} {meth : Method} {c : Code} {H : Heap} {locs : List Loc} {cells slots : Nat} {Q : State → Prop} {cc : ByteArray}
variable {D : va_G} {cl : List vw_C} {tys : List (ClassId × FieldType)} {A : Nat → Prop} {wsR ws : va_W} {oc own : String} {dfl : Nat → Nat} {tyf : Nat → Nat → FieldType} {W0 WN : List Jvm.Cond} {mt : List ev_Me}
theorem ev_stepX_ok {ka : ev_KA} {callf : Nat → List Nat → ev_H → Option ev_A} {d ls0 : Nat} (hx : p.tables.exec = Jvm.exec) (hb : c.code = cc) (hml : c.maxLocals = ls0) (hW0 : ∀ w ∈ W0, w.before args s = true) (hG : ∀ w ∈ W0, goodWord w = true) (hown : s.vm.findClass own = some m.cls) (hC : ev_Cls W0 cl tyf) (hRO : ev_RO D cl A s.heap wsR) (hA : ∀ q, s.heap.size ≤ q → A q) (hRA : ∀ (k : Nat) (q : Nat × va_E), wsR[k]? = some q → ¬ A q.1) (hRD : va_D (fun _ => True) wsR)
    (hcal : ev_Cal l D cl dfl tyf ka oc W0 WN mt wsR d callf) (hNw : ∀ w ∈ WN, ev_isNest w = true → va_Nw w s) (hCF : ev_CF dfl tyf ka A s) (hc1 : ∃ T1 : u_T, cl[1]? = some ("java/lang/String", T1, 2)) (hRf : d + 1 ≤ R.frames) (hRl : 64 * (d + 1) ≤ R.locals)
    {i : Instr} {n0 a b t pc pc' nc ns nc' ns' : Nat} {L st L' st' ads : List Nat} {h h' : ev_H} {ls : Array Slot} {vs : List Value} (hd : decode cc pc = .ok (i, ev_len i n0)) (hlk : ev_pre i a t = false → ev_lk cl dfl tyf own (meth.name = "<init>") args s i a b t ∧ ev_lkC W0 cl mt own args s i a b t) (hlkK : ev_lkK cl dfl tyf oc own args s i a b t)
    (hs : ev_stepX wsR.length dfl callf i a b t pc L st h nc ns = some ((pc', L', st'), h', nc', ns')) (hL : ev_L ka ads ls0 L ls) (hS : ev_S ka ads st vs) (hM : ev_M ka oc tys ads h (wsR ++ ws)) (hK : va_K D cl tys s) (hWd : ev_W D cl A s.heap wsR ws H locs)
    (hrc : nc' ≤ R.cells) (hrs : ns' ≤ R.slots)
    (kk : ∀ (ls' : Array Slot) (vs' : List Value) (t2 : List (ClassId × FieldType)) (l2 : List Nat) (ws' : va_W) (H' : Heap) (locs' : List Loc), ev_L ka (ads ++ l2) ls0 L' ls' → ev_S ka (ads ++ l2) st' vs' → ev_M ka oc (tys ++ t2) (ads ++ l2) h' (wsR ++ ws') → va_K D cl (tys ++ t2) s → ev_W D cl A s.heap wsR ws' H' locs' → W p l e R s m args below meth c H' locs' nc' ns' Q (F0 m pc' ls' vs')) :
    W p l e R s m args below meth c H locs nc ns Q (F0 m pc ls vs) := by
  rcases ev_stepX_or hs with ⟨hp, hs⟩ | hs
  · obtain ⟨k1, k2⟩ := hlk hp
    exact ev_step_ok hx hb hml hW0 hG hown hC hRO hA hRA hRD hcal hNw hCF hRf hRl hd k1 k2 hs hL hS hM hK hWd hrc hrs kk
  · exact ev_stK_ok hx hb hml hW0 hG hown hC hRO hA hRA hRD hcal hNw hRf hRl hCF hc1 hd hlkK (fun hp => (hlk hp).2) hs hL hS hM hK hWd hrc hrs kk
end EVX2
