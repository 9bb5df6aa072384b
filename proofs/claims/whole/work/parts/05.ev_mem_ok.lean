/-! ===== 05: the evaluator's reads and writes are the machine's ===== -/
/-- what the tables must say of an instruction that speaks of a class, a field or a constant -/
def ev_lk (cl : List vw_C) (dfl : Nat → Nat) (tyf : Nat → Nat → FieldType) (own : String) (ini : Prop) (args : Array Value) (s : State) (i : Instr) (a b t : Nat) : Prop := match i with
  | .getfield idx => ∃ C T N, cl[a]? = some (C, T, N) ∧ b < N ∧ ((Jvm.Cond.fieldLink own idx (T b).1 (T b).2.1 (T b).2.2.1).before args s = true ∨ ∃ host, (Jvm.Cond.fieldLinkNest own idx (T b).1 (T b).2.1 (T b).2.2.1 host).before args s = true)
  | .putfield idx => ∃ C T N ty, cl[a]? = some (C, T, N) ∧ b < N ∧ parseFieldDescriptor (T b).2.2.1 = some ty ∧ ev_tyc ty = t ∧
      (((T b).2.2.2 = false ∧ ((Jvm.Cond.fieldLink own idx (T b).1 (T b).2.1 (T b).2.2.1).before args s = true ∨ ∃ host, (Jvm.Cond.fieldLinkNest own idx (T b).1 (T b).2.1 (T b).2.2.1 host).before args s = true)) ∨
       ((T b).2.2.2 = true ∧ ini ∧ (T b).1 = own ∧ (Jvm.Cond.fieldLink own idx (T b).1 (T b).2.1 (T b).2.2.1).before args s = true))
  | .newarray atype => newarray.typeOf atype = ev_ty "" a ∧ a ≤ 10 ∧ (Jvm.Cond.arrayClass (newarray.typeOf atype)).before args s = true
  | .new idx => ∃ C T, cl[a]? = some (C, T, b) ∧ (Jvm.Cond.classLink own idx C).before args s = true ∧ (Jvm.Cond.instantiable C b).before args s = true ∧ (Jvm.Cond.initialized C).before args s = true ∧ ∀ j, j < b → (ev_tyc (tyf a j) = 10 ∧ ev_at (dfl a) j = 18446744073709551616) ∨ (ev_tyc (tyf a j) = 20 ∧ ev_at (dfl a) j = 55340232221128654848) ∨ (ev_tyc (tyf a j) < 3 ∧ ev_at (dfl a) j = 0)
  | .ldc idx => ev_isI a = true → (Jvm.Cond.constant own idx (nI a)).before args s = true
  | .ldc_w idx => (Jvm.Cond.constant own idx (nI a)).before args s = true
  | .ldc2_w idx => (Jvm.Cond.constantLong own idx (lN a)).before args s = true
  | _ => True
/-- the classes' tables are among the words, their types and names as they must be -/
def ev_Cls (W0 : List Jvm.Cond) (cl : List vw_C) (tyf : Nat → Nat → FieldType) : Prop := cl.length ≤ 1000 ∧ ∀ (ci : Nat) (C : String) (T : u_T) (N : Nat), cl[ci]? = some (C, T, N) → (∀ w ∈ u_ws C T N, w ∈ W0) ∧ (∀ k, k < N → parseFieldDescriptor (T k).2.2.1 = some (tyf ci k)) ∧ (∀ a, a < N → ∀ b, b < N → a ≠ b → (T a).2.1 ≠ (T b).2.1)
theorem va_P.ev_r {D : va_G} {cl : List vw_C} {wsR ws : va_W} {H : Heap} (h : va_P D cl (wsR ++ ws) H) : va_P D cl ws H := fun k q hk => h (wsR.length + k) q (by
  rw [List.getElem?_append_right (Nat.le_add_right _ _), Nat.add_sub_cancel_left]
  exact hk)
theorem ev_right {wsR ws : va_W} {k : Nat} {q : Nat × va_E} (h : (wsR ++ ws)[k]? = some q) (hk : wsR.length ≤ k) : ws[k - wsR.length]? = some q := by
  rw [List.getElem?_append_right hk] at h
  exact h
theorem ev_setR {wsR ws : va_W} {k : Nat} {q : Nat × va_E} (hk : wsR.length ≤ k) : wsR ++ ws.set (k - wsR.length) q = (wsR ++ ws).set k q := by
  rw [List.set_append_right _ _ hk]
theorem ev_ix_ok {ka : ev_KA} {oc : String} {tys : List (ClassId × FieldType)} {ads : List Nat} {h : ev_H} {ws : va_W} {k j r z : Nat} {vj vr : Value} (hM : ev_M ka oc tys ads h ws) (hs : ev_ix k h j r = some z) (hj : ev_v ka ads j vj) (hr : ev_v ka ads r vr) :
    ∃ q e x, vr = .ref q ∧ vj = .int (nI j) ∧ h[r - 36893488147419103232]? = some x ∧ ads[r - 36893488147419103232]? = some q ∧ ws[r - 36893488147419103232]? = some (q, e) ∧ ev_E ka oc tys ads x e ∧ x.1 = k ∧ j < x.2.1 ∧ x.2.1 < 2147483648 ∧ z = ev_at x.2.2 j ∧ vp_in (nI j) x.2.1 ∧ (nI j).toNatClampNeg = j := by
  unfold ev_ix at hs
  split at hs
  · rename_i x ho
    obtain ⟨h1, h2⟩ := ev_bif2 hs
    simp only [Bool.and_eq_true] at h1
    obtain ⟨⟨⟨h3, h4⟩, h5⟩, h6⟩ := h1
    obtain ⟨q, e, g1, g2, g3, g4, g5⟩ := hM.o ho hr
    obtain ⟨g6, _⟩ := hj.i h4
    have h5 := Nat.blt_eq.mp h5
    have h6 := Nat.blt_eq.mp h6
    exact ⟨q, e, x, g2, g6, g1, g3, g4, g5, Nat.eq_of_beq_eq_true h3, h5, h6, h2.symm, vp_in_nI h5 (by omega), nI_clamp (by omega)⟩
  · cases hs
theorem ev_wr_ok {ka : ev_KA} {oc : String} {tys : List (ClassId × FieldType)} {ads : List Nat} {h h' : ev_H} {ws : va_W} {k nr j r z : Nat} {vj vr : Value} (hM : ev_M ka oc tys ads h ws) (hs : ev_wr k nr h j r z = some h') (hj : ev_v ka ads j vj) (hr : ev_v ka ads r vr) :
    ∃ q e x, vr = .ref q ∧ vj = .int (nI j) ∧ h[r - 36893488147419103232]? = some x ∧ ads[r - 36893488147419103232]? = some q ∧ ws[r - 36893488147419103232]? = some (q, e) ∧ ev_E ka oc tys ads x e ∧ x.1 = k ∧ j < x.2.1 ∧ x.2.1 < 2147483648 ∧ nr ≤ r - 36893488147419103232 ∧ h' = h.set (r - 36893488147419103232) (x.1, x.2.1, ev_up x.2.2 j z) ∧ vp_in (nI j) x.2.1 ∧ (nI j).toNatClampNeg = j := by
  unfold ev_wr at hs
  split at hs
  · rename_i x ho
    obtain ⟨h1, h2⟩ := ev_bif2 hs
    simp only [Bool.and_eq_true] at h1
    obtain ⟨⟨⟨⟨h3, h4⟩, h5⟩, h6⟩, h7⟩ := h1
    obtain ⟨q, e, g1, g2, g3, g4, g5⟩ := hM.o ho hr
    obtain ⟨g6, _⟩ := hj.i h4
    have h5 := Nat.blt_eq.mp h5
    have h6 := Nat.blt_eq.mp h6
    exact ⟨q, e, x, g2, g6, g1, g3, g4, g5, Nat.eq_of_beq_eq_true h3, h5, h6, Nat.le_of_ble_eq_true h7, h2.symm, vp_in_nI h5 (by omega), nI_clamp (by omega)⟩
  · cases hs
theorem ev_E.obj {ka : ev_KA} {oc : String} {tys : List (ClassId × FieldType)} {ads : List Nat} {x : ev_C} {e : va_E} (h : ev_E ka oc tys ads x e) (hx : x.1 < 1000) : ∃ fs : List Value, e = .inr (x.1, fs) ∧ fs.length = x.2.1 ∧ ∀ j, j < x.2.1 → ∃ v, fs[j]? = some v ∧ ev_v ka ads (ev_at x.2.2 j) v := by
  rcases h with ⟨h0, h⟩ | ⟨h0, h0', h⟩ | ⟨h0, h⟩ | ⟨h0, h⟩
  · exact h
  · omega
  · omega
  · omega
theorem ev_E.ints {ka : ev_KA} {oc : String} {tys : List (ClassId × FieldType)} {ads : List Nat} {x : ev_C} {e : va_E} (h : ev_E ka oc tys ads x e) (hx : 1000 ≤ x.1) (hx2 : x.1 < 1010) : ∃ (t0 : Nat) (cA : ClassId) (f : Nat → Int32), tys[t0]? = some (cA, ev_ty oc (x.1 - 1000)) ∧ e = .inl (cA, x.2.1, .inl f) ∧ ∀ j, j < x.2.1 → ev_at x.2.2 j < 4294967296 ∧ f j = nI (ev_at x.2.2 j) := by
  rcases h with ⟨h0, h⟩ | ⟨h0, h0', h⟩ | ⟨h0, h⟩ | ⟨h0, h⟩
  · omega
  · exact h
  · omega
  · omega
theorem ev_E.longs {ka : ev_KA} {oc : String} {tys : List (ClassId × FieldType)} {ads : List Nat} {x : ev_C} {e : va_E} (h : ev_E ka oc tys ads x e) (hx : x.1 = 1010) : ∃ (t0 : Nat) (cA : ClassId) (f : Nat → Int64), tys[t0]? = some (cA, .long) ∧ e = .inl (cA, x.2.1, .inr (.inl f)) ∧ ∀ j, j < x.2.1 → ev_at x.2.2 j < 18446744073709551616 ∧ f j = lN (ev_at x.2.2 j) := by
  rcases h with ⟨h0, h⟩ | ⟨h0, h0', h⟩ | ⟨h0, h⟩ | ⟨h0, h⟩
  · omega
  · omega
  · exact h
  · omega
theorem ev_E.refs {ka : ev_KA} {oc : String} {tys : List (ClassId × FieldType)} {ads : List Nat} {x : ev_C} {e : va_E} (h : ev_E ka oc tys ads x e) (hx : x.1 = 1020) : ∃ (t0 : Nat) (cA : ClassId) (f : Nat → Option Nat), tys[t0]? = some (cA, .object oc) ∧ e = .inl (cA, x.2.1, .inr (.inr (.inr (.inr f)))) ∧ ∀ j, j < x.2.1 → (ev_at x.2.2 j = 0 ∧ f j = none) ∨ (ev_isR (ev_at x.2.2 j) = true ∧ ev_v ka ads (ev_at x.2.2 j) (va_rf (f j))) := by
  rcases h with ⟨h0, h⟩ | ⟨h0, h0', h⟩ | ⟨h0, h⟩ | ⟨h0, h⟩
  · omega
  · omega
  · omega
  · exact h
/-- an array of ints with one of them changed -/
theorem ev_E.upI {ka : ev_KA} {oc : String} {tys : List (ClassId × FieldType)} {ads : List Nat} {x : ev_C} {t0 j z : Nat} {cA : ClassId} {f : Nat → Int32} (hx : 1000 ≤ x.1) (hx2 : x.1 < 1010) (ht : tys[t0]? = some (cA, ev_ty oc (x.1 - 1000))) (hf : ∀ j, j < x.2.1 → ev_at x.2.2 j < 4294967296 ∧ f j = nI (ev_at x.2.2 j)) (hz : z < 4294967296) {y : Int32} (hy : y = nI z) :
    ev_E ka oc tys ads (x.1, x.2.1, ev_up x.2.2 j z) (.inl (cA, x.2.1, .inl (upd f j y))) := by
  refine Or.inr (Or.inl ⟨hx, hx2, t0, cA, _, ht, rfl, fun k hk => ?_⟩)
  show ev_at (ev_up x.2.2 j z) k < 4294967296 ∧ upd f j y k = nI (ev_at (ev_up x.2.2 j z) k)
  rw [ev_at_up (by omega)]
  unfold upd
  by_cases hkj : k = j
  · rw [if_pos hkj, if_pos hkj]; exact ⟨hz, hy⟩
  · rw [if_neg hkj, if_neg hkj]; exact hf k hk
theorem ev_newv {ka : ev_KA} {ads : List Nat} {q n : Nat} (hn : n < 18446744073709551616) (h : ads.length = n) : ev_v ka (ads ++ [q]) (36893488147419103232 + n) (.ref q) := by
  refine Or.inr (Or.inr (Or.inl ⟨n, q, hn, rfl, ?_, rfl⟩))
  rw [← h]
  simp
section EVH
variable {p : Program} {l : Launch} {e : Env} {R : Room} {s : State} {m : MethodId} {args : Array Value} {below : List Frame} {meth : Method} {c : Code} {H : Heap} {locs : List Loc} {cells slots : Nat} {Q : State → Prop} {cc : ByteArray}
variable {D : va_G} {cl : List vw_C} {tys : List (ClassId × FieldType)} {A : Nat → Prop} {H0 : Heap} {wsR ws : va_W} {oc own : String} {dfl : Nat → Nat} {tyf : Nat → Nat → FieldType} {W0 : List Jvm.Cond}
/-- the world's frame -/
def ev_W (D : va_G) (cl : List vw_C) (A : Nat → Prop) (H0 : Heap) (wsR ws : va_W) (H : Heap) (locs : List Loc) : Prop := va_P D cl (wsR ++ ws) H ∧ va_D A ws ∧ va_S A H0 H locs
def ev_RO (D : va_G) (cl : List vw_C) (A : Nat → Prop) (H0 : Heap) (wsR : va_W) : Prop := ∀ (H1 : Heap) (locs1 : List Loc), va_S A H0 H1 locs1 → va_P D cl wsR H1
set_option maxHeartbeats 4000000 in
theorem ev_H_ok {ka : ev_KA} (hx : p.tables.exec = Jvm.exec) (hb : c.code = cc) (hW0 : ∀ w ∈ W0, w.before args s = true) (hown : s.vm.findClass own = some m.cls) (hC : ev_Cls W0 cl tyf) (hRO : ev_RO D cl A H0 wsR) (hA : ∀ q, H0.size ≤ q → A q)
    {i : Instr} {n0 a b t pc pc' nL nc ns nc' ns' : Nat} {L st L' st' ads : List Nat} {h h' : ev_H} {ls : Array Slot} {vs : List Value} (hd : decode cc pc = .ok (i, ev_len i n0)) (hlk : ev_lk cl dfl tyf own (meth.name = "<init>") args s i a b t)
    (hs : ev_stH wsR.length dfl i a b t pc L st h nc ns = some ((pc', L', st'), h', nc', ns')) (hL : ev_L ka ads nL L ls) (hS : ev_S ka ads st vs) (hM : ev_M ka oc tys ads h (wsR ++ ws)) (hK : va_K D cl tys s) (hWd : ev_W D cl A H0 wsR ws H locs)
    (hrc : nc' ≤ R.cells) (hrs : ns' ≤ R.slots)
    (kk : ∀ (ls' : Array Slot) (vs' : List Value) (t2 : List (ClassId × FieldType)) (l2 : List Nat) (ws' : va_W) (H' : Heap) (locs' : List Loc), ev_L ka (ads ++ l2) nL L' ls' → ev_S ka (ads ++ l2) st' vs' → ev_M ka oc (tys ++ t2) (ads ++ l2) h' (wsR ++ ws') → va_K D cl (tys ++ t2) s → ev_W D cl A H0 wsR ws' H' locs' → W p l e R s m args below meth c H' locs' nc' ns' Q (F0 m pc' ls' vs')) :
    W p l e R s m args below meth c H locs nc ns Q (F0 m pc ls vs) := by
  have kk0 : ∀ (ls' : Array Slot) (vs' : List Value) (ws' : va_W) (H' : Heap) (locs' : List Loc), ev_L ka ads nL L' ls' → ev_S ka ads st' vs' → ev_M ka oc tys ads h' (wsR ++ ws') → ev_W D cl A H0 wsR ws' H' locs' → W p l e R s m args below meth c H' locs' nc' ns' Q (F0 m pc' ls' vs') := by
    intro ls' vs' ws' H' locs' g1 g2 g3 g4
    refine kk ls' vs' [] [] ws' H' locs' ?_ ?_ ?_ ?_ g4 <;> simpa using by assumption
  have wr : ∀ {q k : Nat} {e0 e' : va_E} {x x' : ev_C} {H1 : Heap} {locs1 : List Loc}, h[k]? = some x → ads[k]? = some q → (wsR ++ ws)[k]? = some (q, e0) → wsR.length ≤ k → h' = h.set k x' → ev_E ka oc tys ads x' e' → va_P D cl (ws.set (k - wsR.length) (q, e')) H1 → va_D A (ws.set (k - wsR.length) (q, e')) → va_S A H0 H1 locs1 →
      ev_M ka oc tys ads h' (wsR ++ ws.set (k - wsR.length) (q, e')) ∧ ev_W D cl A H0 wsR (ws.set (k - wsR.length) (q, e')) H1 locs1 := by
    intro q k e0 e' x x' H1 locs1 g1 g2 g3 g4 g5 g6 g7 g8 g9
    refine ⟨?_, (hRO H1 locs1 g9).app g7, g8, g9⟩
    rw [ev_setR g4, g5]
    exact hM.set g1 g2 g6
  obtain ⟨hP, hD, hSS⟩ := id hWd
  cases i with
  | getfield idx =>
    simp only [ev_stH] at hs
    split at hs
    · rename_i r st0
      split at hs
      · rename_i x ho
        obtain ⟨h1, h2⟩ := ev_bif2 hs
        simp only [Bool.and_eq_true] at h1
        simp only [Prod.mk.injEq] at h2
        obtain ⟨⟨rfl, rfl, rfl⟩, rfl, rfl, rfl⟩ := h2
        obtain ⟨v1, r1, rfl, h3, h4⟩ := hS.cons
        obtain ⟨q, e0, g1, rfl, g3, g4, g5⟩ := hM.o ho h3
        have hxa := Nat.eq_of_beq_eq_true h1.1
        have hbn := Nat.blt_eq.mp h1.2
        obtain ⟨C, T, N, k1, k2, k3⟩ := hlk
        have hal : a < 1000 := Nat.lt_of_lt_of_le (List.getElem?_eq_some_iff.mp k1).1 hC.1
        obtain ⟨fs, rfl, f2, f3⟩ := g5.obj (hxa ▸ hal)
        obtain ⟨v, f4, f5⟩ := f3 b hbn
        rw [hxa] at g4
        rcases k3 with k3 | ⟨host, k3⟩
        · exact va_get hx hb hW0 (hC.2 a C T N k1).1 hown hK hP _ g4 k1 b k2 k3 (fun _ z => z) f4 hd (kk0 _ _ _ _ _ hL ⟨f5, h4⟩ hM hWd)
        · exact va_getN hx hb hW0 (hC.2 a C T N k1).1 hown hK hP _ g4 k1 b k2 k3 (fun _ z => z) f4 hd (kk0 _ _ _ _ _ hL ⟨f5, h4⟩ hM hWd)
      · cases hs
    · cases hs
  | putfield idx =>
    simp only [ev_stH] at hs
    split at hs
    · rename_i v r st0
      split at hs
      · rename_i x ho
        obtain ⟨h1, h2⟩ := ev_bif2 hs
        simp only [Bool.and_eq_true] at h1
        simp only [Prod.mk.injEq] at h2
        obtain ⟨⟨rfl, rfl, rfl⟩, e5, rfl, rfl⟩ := h2
        obtain ⟨v1, r1, rfl, h3, h4⟩ := hS.cons
        obtain ⟨v2, r2, rfl, h5, h6⟩ := h4.cons
        obtain ⟨q, e0, g1, rfl, g3, g4, g5⟩ := hM.o ho h5
        obtain ⟨⟨⟨h1, h7⟩, h8⟩, h9⟩ := h1
        have hxa := Nat.eq_of_beq_eq_true h1
        have hbn := Nat.blt_eq.mp h7
        have hnr := Nat.le_of_ble_eq_true h8
        obtain ⟨C, T, N, ty, k1, k2, k3, k4, k5⟩ := hlk
        have hal : a < 1000 := Nat.lt_of_lt_of_le (List.getElem?_eq_some_iff.mp k1).1 hC.1
        obtain ⟨fs, rfl, f2, f3⟩ := g5.obj (hxa ▸ hal)
        obtain ⟨hn, hf⟩ := ev_fit_ok h9 k4 h3
        have hE' : ev_E ka oc tys ads (x.1, x.2.1, ev_up x.2.2 b v) (.inr (x.1, fs.set b v1)) := by
          refine Or.inl ⟨hxa ▸ hal, fs.set b v1, rfl, by rw [List.length_set]; exact f2, fun j hj => ?_⟩
          show ∃ w, (fs.set b v1)[j]? = some w ∧ ev_v ka ads (ev_at (ev_up x.2.2 b v) j) w
          rw [ev_at_up h3.lt]
          by_cases hjb : j = b
          · subst hjb
            exact ⟨v1, List.getElem?_set_self (f2 ▸ hj), by rw [if_pos rfl]; exact h3⟩
          · obtain ⟨w, f4, f5⟩ := f3 j hj
            exact ⟨w, by rw [List.getElem?_set_ne (fun z => hjb z.symm)]; exact f4, by rw [if_neg hjb]; exact f5⟩
        have g4' := ev_right g4 hnr
        rw [hxa] at g4'
        have go : ∀ (H1 : Heap) (locs1 : List Loc), va_P D cl (ws.set (r - 36893488147419103232 - wsR.length) (q, .inr (a, fs.set b v1))) H1 → va_D A (ws.set (r - 36893488147419103232 - wsR.length) (q, .inr (a, fs.set b v1))) → va_S A H0 H1 locs1 → W p l e R s m args below meth c H1 locs1 nc ns Q (F0 m (pc + 3) ls r2) := by
          intro H1 locs1 z1 z2 z3
          obtain ⟨m1, m2⟩ := wr g1 g3 g4 hnr e5.symm hE' (hxa ▸ z1) (hxa ▸ z2) z3
          exact kk0 _ _ _ _ _ hL h6 m1 m2
        rcases k5 with ⟨k5, k6 | ⟨host, k6⟩⟩ | ⟨k5, k6, k7, k8⟩
        · exact va_put hx hb hW0 (hC.2 a C T N k1).1 (tyf a) (hC.2 a C T N k1).2.1 (hC.2 a C T N k1).2.2 hown hK hP.ev_r hD hSS _ g4' k1 b k2 k6 (fun _ z => z) k5 k3 hn hf (f2 ▸ hbn) hd go
        · exact va_putN hx hb hW0 (hC.2 a C T N k1).1 (tyf a) (hC.2 a C T N k1).2.1 (hC.2 a C T N k1).2.2 hown hK hP.ev_r hD hSS _ g4' k1 b k2 k6 (fun _ z => z) k5 k3 hn hf (f2 ▸ hbn) hd go
        · exact va_putF hx hb hW0 (hC.2 a C T N k1).1 (tyf a) (hC.2 a C T N k1).2.1 (hC.2 a C T N k1).2.2 hown hK hP.ev_r hD hSS _ g4' k1 b k2 k8 (fun _ z => z) k5 k6 k7 k3 hn hf (f2 ▸ hbn) hd go
      · cases hs
    · cases hs
  | iaload =>
    simp only [ev_stH, ev_rdI] at hs
    split at hs
    · rename_i j r st0
      split at hs
      · rename_i z hz
        simp only [Option.some.injEq, Prod.mk.injEq] at hs
        obtain ⟨⟨rfl, rfl, rfl⟩, rfl, rfl, rfl⟩ := hs
        obtain ⟨v1, r1, rfl, h3, h4⟩ := hS.cons
        obtain ⟨v2, r2, rfl, h5, h6⟩ := h4.cons
        obtain ⟨q, e0, x, rfl, rfl, g1, g2, g3, g4, g5, g6, g7, rfl, g8, g9⟩ := ev_ix_ok hM hz h3 h5
        obtain ⟨t0, cA, f, f1, rfl, f2⟩ := g4.ints (by omega) (by omega)
        rw [g5] at f1
        refine va_iald hx hb hK hP _ t0 g3 f1 g8 hd ?_
        rw [g9, (f2 j g6).2]
        exact kk0 _ _ _ _ _ hL ⟨.int (f2 j g6).1, h6⟩ hM hWd
      · cases hs
    · cases hs
  | baload =>
    simp only [ev_stH] at hs
    cases hZ : ev_isZ h st.tail
    · rw [hZ] at hs
      simp only [cond_false, ev_rdI] at hs
      split at hs
      · rename_i j r st0
        split at hs
        · rename_i z hz
          simp only [Option.some.injEq, Prod.mk.injEq] at hs
          obtain ⟨⟨rfl, rfl, rfl⟩, rfl, rfl, rfl⟩ := hs
          obtain ⟨v1, r1, rfl, h3, h4⟩ := hS.cons
          obtain ⟨v2, r2, rfl, h5, h6⟩ := h4.cons
          obtain ⟨q, e0, x, rfl, rfl, g1, g2, g3, g4, g5, g6, g7, rfl, g8, g9⟩ := ev_ix_ok hM hz h3 h5
          obtain ⟨t0, cA, f, f1, rfl, f2⟩ := g4.ints (by omega) (by omega)
          rw [g5] at f1
          refine va_bald hx hb hK hP _ t0 g3 f1 g8 hd ?_
          rw [g9, (f2 j g6).2]
          exact kk0 _ _ _ _ _ hL ⟨.int (f2 j g6).1, h6⟩ hM hWd
        · cases hs
      · cases hs
    · rw [hZ] at hs
      simp only [cond_true, ev_rdI] at hs
      split at hs
      · rename_i j r st0
        split at hs
        · rename_i z hz
          simp only [Option.some.injEq, Prod.mk.injEq] at hs
          obtain ⟨⟨rfl, rfl, rfl⟩, rfl, rfl, rfl⟩ := hs
          obtain ⟨v1, r1, rfl, h3, h4⟩ := hS.cons
          obtain ⟨v2, r2, rfl, h5, h6⟩ := h4.cons
          obtain ⟨q, e0, x, rfl, rfl, g1, g2, g3, g4, g5, g6, g7, rfl, g8, g9⟩ := ev_ix_ok hM hz h3 h5
          obtain ⟨t0, cA, f, f1, rfl, f2⟩ := g4.ints (by omega) (by omega)
          rw [g5] at f1
          refine va_zald hx hb hK hP _ t0 g3 f1 g8 hd ?_
          rw [g9, (f2 j g6).2]
          exact kk0 _ _ _ _ _ hL ⟨.int (f2 j g6).1, h6⟩ hM hWd
        · cases hs
      · cases hs
  | caload =>
    simp only [ev_stH, ev_rdI] at hs
    split at hs
    · rename_i j r st0
      split at hs
      · rename_i z hz
        simp only [Option.some.injEq, Prod.mk.injEq] at hs
        obtain ⟨⟨rfl, rfl, rfl⟩, rfl, rfl, rfl⟩ := hs
        obtain ⟨v1, r1, rfl, h3, h4⟩ := hS.cons
        obtain ⟨v2, r2, rfl, h5, h6⟩ := h4.cons
        obtain ⟨q, e0, x, rfl, rfl, g1, g2, g3, g4, g5, g6, g7, rfl, g8, g9⟩ := ev_ix_ok hM hz h3 h5
        obtain ⟨t0, cA, f, f1, rfl, f2⟩ := g4.ints (by omega) (by omega)
        rw [g5] at f1
        refine va_cald hx hb hK hP _ t0 g3 f1 g8 hd ?_
        rw [g9, (f2 j g6).2]
        exact kk0 _ _ _ _ _ hL ⟨.int (f2 j g6).1, h6⟩ hM hWd
      · cases hs
    · cases hs
  | laload =>
    simp only [ev_stH] at hs
    split at hs
    · rename_i j r st0
      split at hs
      · rename_i z hz
        simp only [Option.some.injEq, Prod.mk.injEq] at hs
        obtain ⟨⟨rfl, rfl, rfl⟩, rfl, rfl, rfl⟩ := hs
        obtain ⟨v1, r1, rfl, h3, h4⟩ := hS.cons
        obtain ⟨v2, r2, rfl, h5, h6⟩ := h4.cons
        obtain ⟨q, e0, x, rfl, rfl, g1, g2, g3, g4, g5, g6, g7, rfl, g8, g9⟩ := ev_ix_ok hM hz h3 h5
        obtain ⟨t0, cA, f, f1, rfl, f2⟩ := g4.longs g5
        refine va_lald hx hb hK hP _ t0 g3 f1 g8 hd ?_
        rw [g9, (f2 j g6).2]
        exact kk0 _ _ _ _ _ hL ⟨.long (f2 j g6).1, h6⟩ hM hWd
      · cases hs
    · cases hs
  | aaload =>
    simp only [ev_stH] at hs
    split at hs
    · rename_i j r st0
      split at hs
      · rename_i z hz
        simp only [Option.some.injEq, Prod.mk.injEq] at hs
        obtain ⟨⟨rfl, rfl, rfl⟩, rfl, rfl, rfl⟩ := hs
        obtain ⟨v1, r1, rfl, h3, h4⟩ := hS.cons
        obtain ⟨v2, r2, rfl, h5, h6⟩ := h4.cons
        obtain ⟨q, e0, x, rfl, rfl, g1, g2, g3, g4, g5, g6, g7, rfl, g8, g9⟩ := ev_ix_ok hM hz h3 h5
        obtain ⟨t0, cA, f, f1, rfl, f2⟩ := g4.refs g5
        refine va_aldq hx hb hK hP _ t0 g3 f1 g8 hd ?_
        rw [g9]
        refine kk0 _ _ _ _ _ hL ⟨?_, h6⟩ hM hWd
        rcases f2 j g6 with ⟨f3, f4⟩ | ⟨f3, f4⟩
        · rw [f3, f4]; exact .null
        · have : Nat.beq (ev_at x.2.2 j) 0 = false := by
            have := ev_isR_s f3
            cases hq : Nat.beq (ev_at x.2.2 j) 0
            · rfl
            · have := Nat.eq_of_beq_eq_true hq; omega
          rw [this]; exact f4
      · cases hs
    · cases hs
  | iastore =>
    simp only [ev_stH] at hs
    split at hs
    · rename_i v j r st0
      cases hI : ev_isI v
      · rw [hI] at hs; cases hs
      · rw [hI] at hs
        simp only [cond_true] at hs
        split at hs
        · rename_i h2 hz
          simp only [Option.some.injEq, Prod.mk.injEq] at hs
          obtain ⟨⟨rfl, rfl, rfl⟩, rfl, rfl, rfl⟩ := hs
          obtain ⟨v0, r0, rfl, i3, i4⟩ := hS.cons
          obtain ⟨v1, r1, rfl, h3, h4⟩ := i4.cons
          obtain ⟨v2, r2, rfl, h5, h6⟩ := h4.cons
          obtain ⟨rfl, hv⟩ := i3.i hI
          obtain ⟨q, e0, x, rfl, rfl, g1, g2, g3, g4, g5, g6, g7, g0, e5, g8, g9⟩ := ev_wr_ok hM hz h3 h5
          obtain ⟨t0, cA, f, f1, rfl, f2⟩ := g4.ints (by omega) (by omega)
          have f1' := f1
          rw [g5] at f1'
          refine va_iast hx hb hK hP.ev_r hD hSS _ t0 (ev_right g3 g0) f1' g8 hd (fun H1 locs1 z1 z2 z3 => ?_)
          rw [g9] at z1 z2
          obtain ⟨m1, m2⟩ := wr g1 g2 g3 g0 e5 (ev_E.upI (by omega) (by omega) f1 f2 hv rfl) z1 z2 z3
          exact kk0 _ _ _ _ _ hL h6 m1 m2
        · cases hs
    · cases hs
  | bastore =>
    simp only [ev_stH] at hs
    split at hs
    · rename_i v j r st0
      cases hZ : ev_isZ h (r :: st0)
      · rw [hZ] at hs
        simp only [cond_false] at hs
        cases hI : ev_isI v
        · rw [hI] at hs; cases hs
        · rw [hI] at hs
          simp only [cond_true] at hs
          split at hs
          · rename_i h2 hz
            simp only [Option.some.injEq, Prod.mk.injEq] at hs
            obtain ⟨⟨rfl, rfl, rfl⟩, rfl, rfl, rfl⟩ := hs
            obtain ⟨v0, r0, rfl, i3, i4⟩ := hS.cons
            obtain ⟨v1, r1, rfl, h3, h4⟩ := i4.cons
            obtain ⟨v2, r2, rfl, h5, h6⟩ := h4.cons
            obtain ⟨rfl, hv⟩ := i3.i hI
            obtain ⟨q, e0, x, rfl, rfl, g1, g2, g3, g4, g5, g6, g7, g0, e5, g8, g9⟩ := ev_wr_ok hM hz h3 h5
            obtain ⟨t0, cA, f, f1, rfl, f2⟩ := g4.ints (by omega) (by omega)
            have f1' := f1
            rw [g5] at f1'
            refine va_bast hx hb hK hP.ev_r hD hSS _ t0 (ev_right g3 g0) f1' g8 hd (fun H1 locs1 z1 z2 z3 => ?_)
            rw [g9] at z1 z2
            obtain ⟨m1, m2⟩ := wr g1 g2 g3 g0 e5 (ev_E.upI (by omega) (by omega) f1 f2 (ev_b8_lt v) (show vp_nar .byte (nI v) = nI (ev_b8 v) from ev_i2b hv)) z1 z2 z3
            exact kk0 _ _ _ _ _ hL h6 m1 m2
          · cases hs
      · rw [hZ] at hs
        simp only [cond_true] at hs
        cases hI : Nat.blt v 2
        · rw [hI] at hs; cases hs
        · rw [hI] at hs
          simp only [cond_true] at hs
          have hv2 := Nat.blt_eq.mp hI
          split at hs
          · rename_i h2 hz
            simp only [Option.some.injEq, Prod.mk.injEq] at hs
            obtain ⟨⟨rfl, rfl, rfl⟩, rfl, rfl, rfl⟩ := hs
            obtain ⟨v0, r0, rfl, i3, i4⟩ := hS.cons
            obtain ⟨v1, r1, rfl, h3, h4⟩ := i4.cons
            obtain ⟨v2, r2, rfl, h5, h6⟩ := h4.cons
            obtain ⟨rfl, hv⟩ := i3.i (show ev_isI v = true from Nat.blt_eq.mpr (by omega))
            obtain ⟨q, e0, x, rfl, rfl, g1, g2, g3, g4, g5, g6, g7, g0, e5, g8, g9⟩ := ev_wr_ok hM hz h3 h5
            obtain ⟨t0, cA, f, f1, rfl, f2⟩ := g4.ints (by omega) (by omega)
            have f1' := f1
            rw [g5] at f1'
            refine va_zast hx hb hK hP.ev_r hD hSS _ t0 (ev_right g3 g0) f1' g8 hd (fun H1 locs1 z1 z2 z3 => ?_)
            rw [g9] at z1 z2
            have hnz : vp_nar .boolean (nI v) = nI v := by
              rcases (show v = 0 ∨ v = 1 by omega) with rfl | rfl <;> rfl
            obtain ⟨m1, m2⟩ := wr g1 g2 g3 g0 e5 (ev_E.upI (by omega) (by omega) f1 f2 hv hnz) z1 z2 z3
            exact kk0 _ _ _ _ _ hL h6 m1 m2
          · cases hs
    · cases hs
  | lastore =>
    simp only [ev_stH] at hs
    split at hs
    · rename_i v j r st0
      cases hI : ev_isL v
      · rw [hI] at hs; cases hs
      · rw [hI] at hs
        simp only [cond_true] at hs
        split at hs
        · rename_i h2 hz
          simp only [Option.some.injEq, Prod.mk.injEq] at hs
          obtain ⟨⟨rfl, rfl, rfl⟩, rfl, rfl, rfl⟩ := hs
          obtain ⟨v0, r0, rfl, i3, i4⟩ := hS.cons
          obtain ⟨v1, r1, rfl, h3, h4⟩ := i4.cons
          obtain ⟨v2, r2, rfl, h5, h6⟩ := h4.cons
          obtain ⟨rfl, hv⟩ := i3.l hI
          obtain ⟨q, e0, x, rfl, rfl, g1, g2, g3, g4, g5, g6, g7, g0, e5, g8, g9⟩ := ev_wr_ok hM hz h3 h5
          obtain ⟨t0, cA, f, f1, rfl, f2⟩ := g4.longs g5
          refine va_last hx hb hK hP.ev_r hD hSS _ t0 (ev_right g3 g0) f1 g8 hd (fun H1 locs1 z1 z2 z3 => ?_)
          rw [g9] at z1 z2
          refine (fun (mm : _ ∧ _) => kk0 _ _ _ _ _ hL h6 mm.1 mm.2) (wr g1 g2 g3 g0 e5 ?_ z1 z2 z3)
          refine Or.inr (Or.inr (Or.inl ⟨g5, t0, cA, _, f1, rfl, fun k hk => ?_⟩))
          show ev_at (ev_up x.2.2 j (v - 18446744073709551616)) k < 18446744073709551616 ∧ vp_updL f j _ k = lN (ev_at (ev_up x.2.2 j (v - 18446744073709551616)) k)
          rw [ev_at_up (Nat.lt_trans hv (by decide))]
          unfold vp_updL
          by_cases hkj : k = j
          · rw [if_pos hkj, if_pos hkj]; exact ⟨hv, rfl⟩
          · rw [if_neg hkj, if_neg hkj]; exact f2 k hk
        · cases hs
    · cases hs
  | arraylength =>
    simp only [ev_stH] at hs
    split at hs
    · rename_i r st0
      split at hs
      · rename_i x ho
        obtain ⟨h1, h2⟩ := ev_bif2 hs
        simp only [Bool.and_eq_true] at h1
        simp only [Prod.mk.injEq] at h2
        obtain ⟨⟨rfl, rfl, rfl⟩, rfl, rfl, rfl⟩ := h2
        obtain ⟨v1, r1, rfl, h3, h4⟩ := hS.cons
        obtain ⟨q, e0, g1, rfl, g3, g4, g5⟩ := hM.o ho h3
        have hxa := Nat.le_of_ble_eq_true h1.1
        have hbn := ev_isI_s h1.2
        rcases g5 with ⟨h0, _⟩ | ⟨h0, h0', t0, cA, f, f1, rfl, f3⟩ | ⟨h0, t0, cA, f, f1, rfl, f3⟩ | ⟨h0, t0, cA, f, f1, rfl, f3⟩
        · omega
        · exact va_alen hx hb hK hP _ t0 g4 f1 rfl hd (kk0 _ _ _ _ _ hL ⟨.int hbn, h4⟩ hM hWd)
        · exact va_alen hx hb hK hP _ t0 g4 f1 rfl hd (kk0 _ _ _ _ _ hL ⟨.int hbn, h4⟩ hM hWd)
        · exact va_alen hx hb hK hP _ t0 g4 f1 rfl hd (kk0 _ _ _ _ _ hL ⟨.int hbn, h4⟩ hM hWd)
      · cases hs
    · cases hs
  | newarray atype =>
    simp only [ev_stH] at hs
    split at hs
    · rename_i n st0
      obtain ⟨h1, h2⟩ := ev_bif2 hs
      simp only [Bool.and_eq_true] at h1
      have hn := Nat.le_of_ble_eq_true h1.1
      have hl := Nat.blt_eq.mp h1.2
      simp only [Prod.mk.injEq] at h2
      obtain ⟨⟨rfl, rfl, rfl⟩, rfl, rfl, rfl⟩ := h2
      obtain ⟨v1, r1, rfl, h3, h4⟩ := hS.cons
      obtain ⟨rfl, _⟩ := h3.i (show ev_isI n = true from Nat.blt_eq.mpr (by omega))
      obtain ⟨k1, k2, k3⟩ := hlk
      have fin : ∀ (a0 : vp_A) (ty : FieldType) (hty : newarray.typeOf atype = ty) (ha : ∀ cA : ClassId, vp_cell cA a0 = arrV cA n (fun _ => defaultValue ty)) (hcb : componentBytes ty ≤ 8) (hE : ∀ (cA : ClassId) (q : Nat), ev_E ka oc (tys ++ [(cA, ty)]) (ads ++ [q]) (1000 + a, n, 0) (.inl (cA, a0))), W p l e R s m args below meth c H locs nc ns Q (F0 m pc ls (.int (nI n) :: r1)) := by
        intro a0 ty hty ha hcb hE
        refine va_newa hx hb k3 hty hK hP.ev_r hD hSS hA ha (nI_pos (by omega)) (nI_clamp (by omega)) (Nat.le_trans (Nat.mul_le_mul hn hcb) (by decide)) hrc hrs hd (fun q cA H1 z1 z2 z3 z4 => ?_)
        refine kk ls _ [(cA, ty)] [q] _ H1 locs hL.mono ⟨ev_newv (by omega) hM.1, h4.mono⟩ ?_ z1 ⟨(hRO H1 locs z4).app z2, z3, z4⟩
        rw [← List.append_assoc]
        exact hM.push (hE cA q)
      have finI : ∀ (ty : FieldType) (hty : newarray.typeOf atype = ty) (ha : a < 10) (hd : defaultValue ty = .int 0) (hcb : componentBytes ty ≤ 8) (he : ev_ty oc a = ty), W p l e R s m args below meth c H locs nc ns Q (F0 m pc ls (.int (nI n) :: r1)) := by
        intro ty hty ha hd hcb he
        refine fin (n, .inl (fun _ => 0)) ty hty (fun cA => by rw [hd]; rfl) hcb (fun cA q => ?_)
        refine Or.inr (Or.inl ⟨Nat.le_add_right _ _, Nat.add_lt_add_left ha 1000, tys.length, cA, _, ?_, rfl, fun j _ => ?_⟩)
        · show (tys ++ [(cA, ty)])[tys.length]? = some (cA, ev_ty oc (1000 + a - 1000))
          rw [Nat.add_sub_cancel_left, he]
          simp
        · show ev_at 0 j < 4294967296 ∧ (0 : Int32) = nI (ev_at 0 j)
          rw [ev_at_0]
          exact ⟨by decide, rfl⟩
      have hany : ∀ {P : Prop}, (a = 0 → P) → (a = 1 → P) → (a = 2 → P) → (a = 3 → P) → (a = 10 → P) → (ev_ty "" a = .object "" → P) → P := by
        intro P p0 p1 p2 p3 p10 pn
        rcases (show a = 0 ∨ a = 1 ∨ a = 2 ∨ a = 3 ∨ a = 4 ∨ a = 5 ∨ a = 6 ∨ a = 7 ∨ a = 8 ∨ a = 9 ∨ a = 10 by omega) with h | h | h | h | h | h | h | h | h | h | h
        · exact p0 h
        · exact p1 h
        · exact p2 h
        · exact p3 h
        all_goals first
          | exact p10 h
          | (refine pn ?_; subst h; rfl)
      refine hany (fun h => ?_) (fun h => ?_) (fun h => ?_) (fun h => ?_) (fun h => ?_) (fun h => ?_)
      · rw [h] at k1; exact finI .int k1 (by omega) rfl (by decide) (by rw [h]; rfl)
      · rw [h] at k1; exact finI .byte k1 (by omega) rfl (by decide) (by rw [h]; rfl)
      · rw [h] at k1; exact finI .boolean k1 (by omega) rfl (by decide) (by rw [h]; rfl)
      · rw [h] at k1; exact finI .char k1 (by omega) rfl (by decide) (by rw [h]; rfl)
      · rw [h] at k1
        refine fin (n, .inr (.inl (fun _ => 0))) .long k1 (fun cA => rfl) (by decide) (fun cA q => ?_)
        refine Or.inr (Or.inr (Or.inl ⟨by rw [h], tys.length, cA, _, by simp, rfl, fun j _ => ?_⟩))
        show ev_at 0 j < 18446744073709551616 ∧ (0 : Int64) = lN (ev_at 0 j)
        rw [ev_at_0]
        exact ⟨by decide, rfl⟩
      · rw [h] at k1; cases atype <;> cases k1
    · cases hs
  | new idx =>
    simp only [ev_stH] at hs
    obtain ⟨h1, h2⟩ := ev_bif2 hs
    have hl := Nat.blt_eq.mp h1
    simp only [Prod.mk.injEq] at h2
    obtain ⟨⟨rfl, rfl, rfl⟩, rfl, rfl, rfl⟩ := h2
    obtain ⟨C, T, k1, k2, k3, k4, k5⟩ := hlk
    have hal : a < 1000 := Nat.lt_of_lt_of_le (List.getElem?_eq_some_iff.mp k1).1 hC.1
    refine va_new (fs := (List.range b).map (fun j => defaultValue (tyf a j))) hx hb hW0 (hC.2 a C T b k1).1 (tyf a) (hC.2 a C T b k1).2.1 hown k2 k3 k4 hK hP.ev_r hD hSS hA k1 (fun j hj => ?_) hrc hrs hd (fun q H1 z2 z3 z4 => ?_)
    · unfold vp_V
      simp [List.getD_eq_getElem?_getD, hj]
    · refine kk ls _ [] [q] _ H1 locs hL.mono ⟨ev_newv (by omega) hM.1, hS.mono⟩ ?_ (by simpa using hK) ⟨(hRO H1 locs z4).app z2, z3, z4⟩
      rw [← List.append_assoc]
      refine hM.push (Or.inl ⟨hal, _, rfl, by simp, fun j hj => ?_⟩)
      refine ⟨defaultValue (tyf a j), by simp [show j < b from hj], ?_⟩
      show ev_v ka _ (ev_at (dfl a) j) _
      rcases k5 j hj with ⟨c1, c2⟩ | ⟨c1, c2⟩ | ⟨c1, c2⟩
      · rw [c2]
        cases hty : tyf a j <;> rw [hty] at c1 <;> simp [ev_tyc] at c1
        exact .long (n := 0) (by decide)
      · rw [c2]
        cases hty : tyf a j <;> rw [hty] at c1 <;> simp [ev_tyc] at c1
        · exact .null
        · exact .null
      · rw [c2]
        cases hty : tyf a j <;> rw [hty] at c1 <;> simp [ev_tyc] at c1
        · exact .int (x := 0) (by decide)
        · exact .int (x := 0) (by decide)
        · exact .int (x := 0) (by decide)
  | ldc idx =>
    simp only [ev_stH] at hs
    obtain ⟨h1, h2⟩ := ev_bif2 hs
    simp only [Prod.mk.injEq] at h2
    obtain ⟨⟨rfl, rfl, rfl⟩, rfl, rfl, rfl⟩ := h2
    exact lv_ldc hx hb hown (hlk h1) hd (kk0 _ _ _ _ _ hL ⟨.int (ev_isI_s h1), hS⟩ hM hWd)
  | ldc_w idx =>
    simp only [ev_stH] at hs
    obtain ⟨h1, h2⟩ := ev_bif2 hs
    simp only [Prod.mk.injEq] at h2
    obtain ⟨⟨rfl, rfl, rfl⟩, rfl, rfl, rfl⟩ := h2
    exact lv_ldcw hx hb hown hlk hd (kk0 _ _ _ _ _ hL ⟨.int (ev_isI_s h1), hS⟩ hM hWd)
  | ldc2_w idx =>
    simp only [ev_stH] at hs
    obtain ⟨h1, h2⟩ := ev_bif2 hs
    simp only [Prod.mk.injEq] at h2
    obtain ⟨⟨rfl, rfl, rfl⟩, rfl, rfl, rfl⟩ := h2
    exact lv_ldc2 hx hb hown hlk hd (kk0 _ _ _ _ _ hL ⟨.long (Nat.blt_eq.mp h1), hS⟩ hM hWd)
  | anewarray idx => cases hs
  | _ =>
    simp only [ev_stH] at hs
    split at hs
    · rename_i f hf
      simp only [Option.some.injEq, Prod.mk.injEq] at hs
      obtain ⟨rfl, rfl, rfl, rfl⟩ := hs
      exact ev_A_ok hx hb hd hf hL hS (fun ls' vs' g1 g2 => kk0 _ _ _ _ _ g1 g2 hM hWd)
    · cases hs
end EVH
