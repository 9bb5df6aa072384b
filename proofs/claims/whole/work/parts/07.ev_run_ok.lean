/-! ===== 07: the evaluator's runs are the machine's: a method's contract out of its evaluation ===== -/
def ev_rv (ka : ev_KA) (ads : List Nat) (r : Option Nat) (v : Option Value) : Prop := match r, v with
  | none, none => True
  | some x, some w => ev_v ka ads x w
  | _, _ => False
/-- links between nest mates: words that hold of a state, and stay -/
def ev_isNest (w : Jvm.Cond) : Bool := match w with
  | .fieldLinkNest _ _ _ _ _ _ => true
  | .methodLinkNest _ _ _ _ => true
  | _ => false
theorem ev_nest_on {w : Jvm.Cond} (h : ev_isNest w = true) : w.onTables = true := by
  cases w <;> first
    | rfl
    | cases h
theorem ev_nest_warm {w : Jvm.Cond} {s U : State} (h : ev_isNest w = true) (hW : s.WarmedH U.vm) (hw : va_Nw w s) : va_Nw w U := by
  cases w <;> first
    | exact va_Nw.warmF hW hw
    | exact va_Nw.warmM hW hw
    | cases h
/-- constants: the string's home, its text, as the tables have them -/
def ev_kOwn (tyf : Nat → Nat → FieldType) (i : Nat) : String := match tyf (2000 + i) 0 with
  | .object s => s
  | _ => ""
def ev_kTx (tyf : Nat → Nat → FieldType) (i : Nat) : String := match tyf (2000 + i) 1 with
  | .object s => s
  | _ => ""
/-- the one class of which there are rows of references -/
def ev_kOc (tyf : Nat → Nat → FieldType) : String := match tyf 2999 0 with
  | .object s => s
  | _ => ""
/-- what is known of the constants, and of the static fields that are read -/
def ev_CF (dfl : Nat → Nat) (tyf : Nat → Nat → FieldType) (ka : ev_KA) (A : Nat → Prop) (U : State) : Prop :=
  ka.length = dfl 5000 ∧ (∀ (i : Nat) (q : Nat × Nat), ka[i]? = some q → va_O "java/lang/String" q.1 A U U.heap ∧ va_OF "java/lang/String" "coder" "B" (.int 0) q.1 A U U.heap ∧ va_OF "java/lang/String" "value" "[B" (.ref q.2) q.1 A U U.heap ∧ va_T .byte q.2 (dfl (3000 + i)) (fun j => .int (nI (ev_at (dfl (2000 + i)) j))) A U U.heap ∧ vk_R (ev_kOwn tyf i) (dfl (4000 + i)) (ev_kTx tyf i) q.1 U) ∧
    va_Z "java/lang/String" "COMPACT_STRINGS" "Z" (.int 1) A U U.heap ∧ va_Zq "jdk/internal/util/Preconditions" "SIOOBE_FORMATTER" "Ljava/util/function/BiFunction;" A U U.heap ∧ va_AO (ev_kOc tyf) U
theorem ev_CF.go {dfl : Nat → Nat} {tyf : Nat → Nat → FieldType} {ka : ev_KA} {A B : Nat → Prop} {s U : State} {H : Heap} {locs : List Loc} (h : ev_CF dfl tyf ka A s) (hW : s.WarmedH U.vm) (hU : U.heap = H) (hS : va_S A s.heap H locs) (hAB : ∀ q, B q → A q) : ev_CF dfl tyf ka B U := by
  subst hU
  obtain ⟨h1, h2, h3, h4, h0⟩ := h
  have hvm : s.vm.Alike U.vm := hW.alike
  refine ⟨h1, fun i q hq => ?_, ((va_Z.moved hvm (h3.kept hS.2.1)).narrow hAB), ((va_Zq.moved hvm (h4.kept hS.2.1)).narrow hAB), va_AO.moved hvm h0⟩
  obtain ⟨g1, g2, g3, g4, g5⟩ := h2 i q hq
  exact ⟨(va_O.moved hvm (g1.kept hS.2.1)).narrow hAB, (va_OF.moved hvm (g2.kept hS.2.1)).narrow hAB, (va_OF.moved hvm (g3.kept hS.2.1)).narrow hAB, (va_T.moved hvm (g4.kept hS.2.1)).narrow hAB, vk_R.warm hW g5⟩
theorem ev_CF.calling {dfl : Nat → Nat} {tyf : Nat → Nat → FieldType} {ka : ev_KA} {A : Nat → Prop} {U : State} {g : JFrame} {mk : MethodId} {a : Array Value} (h : ev_CF dfl tyf ka A U) : ev_CF dfl tyf ka A (U.calling g mk a) := by
  obtain ⟨h1, h2, h3, h4, h0⟩ := h
  refine ⟨h1, fun i q hq => ?_, va_Z.moved (u := U) (U := U.calling g mk a) (Vm.Alike.refl U.vm) h3, va_Zq.moved (u := U) (U := U.calling g mk a) (Vm.Alike.refl U.vm) h4, va_AO.moved (u := U) (U := U.calling g mk a) (Vm.Alike.refl U.vm) h0⟩
  obtain ⟨g1, g2, g3, g4, g5⟩ := h2 i q hq
  exact ⟨va_O.moved (u := U) (U := U.calling g mk a) (Vm.Alike.refl U.vm) g1, va_OF.moved (u := U) (U := U.calling g mk a) (Vm.Alike.refl U.vm) g2, va_OF.moved (u := U) (U := U.calling g mk a) (Vm.Alike.refl U.vm) g3, va_T.moved (u := U) (U := U.calling g mk a) (Vm.Alike.refl U.vm) g4, vk_R.same (u := U) (U := U.calling g mk a) rfl g5⟩
def ev_Pc (D : va_G) (cl : List vw_C) (dfl : Nat → Nat) (tyf : Nat → Nat → FieldType) (ka : ev_KA) (tys : List (ClassId × FieldType)) (WN : List Jvm.Cond) (wsR ws : va_W) (sz : Nat) (vs : List Value) : Array Value → State → Prop :=
  va_Pc vs (fun U => U.heap.size = sz ∧ va_P D cl (wsR ++ ws) U.heap ∧ va_K D cl tys U ∧ va_D (fun _ => True) (wsR ++ ws) ∧ (∀ w ∈ WN, ev_isNest w = true → va_Nw w U) ∧ ev_CF dfl tyf ka (va_A ws sz) U)
def ev_Qc (D : va_G) (cl : List vw_C) (ka : ev_KA) (oc : String) (wsR ws : va_W) (tys : List (ClassId × FieldType)) (ads : List Nat) (sz : Nat) (ret : Option Nat) (h' : ev_H) : Array Value → State → Outcome → State → Prop := fun _ st o t =>
  (∃ (l2 : List Nat) (t2 : List (ClassId × FieldType)) (ws' : va_W) (v : Option Value), o = .returned v ∧ ev_rv ka (ads ++ l2) ret v ∧ ev_M ka oc (tys ++ t2) (ads ++ l2) h' (wsR ++ ws') ∧ va_P D cl (wsR ++ ws') t.heap ∧ va_K D cl (tys ++ t2) t ∧ va_D (va_A ws sz) ws') ∧ va_F (va_A ws sz) st t
theorem ev_Pc.blind {ka : ev_KA} {dfl : Nat → Nat} {tyf : Nat → Nat → FieldType} {D : va_G} {cl : List vw_C} {tys : List (ClassId × FieldType)} {WN : List Jvm.Cond} {wsR ws : va_W} {sz : Nat} {vs : List Value} : FrameBlind (ev_Pc D cl dfl tyf ka tys WN wsR ws sz vs) := by
  intro a U g mk h
  obtain ⟨h0, h1, h2, h3, h4, h5, h6⟩ := h
  exact ⟨h0, h1, h2, va_K.moved (u := U) (U := U.calling g mk a) (Vm.Alike.refl U.vm) h3, h4, fun w hw hn => va_Nw.same (u := U) (U := U.calling g mk a) (ev_nest_on hn) rfl (h5 w hw hn), h6.calling⟩
/-- the words of a call -/
def ev_lkB (W0 : List Jvm.Cond) (args : Array Value) (s : State) (own : String) (idx : Nat) (y : MethodName) (bytes : ByteArray) (maxL : Nat) (rt : Option FieldType) (n : Nat) : Prop :=
  maxL ≤ 45 ∧ Jvm.Cond.code y bytes maxL rt ∈ W0 ∧ (Jvm.Cond.initialized y.cls).before args s = true ∧ (y.cls ≠ "java/lang/invoke/MethodHandle" ∧ y.cls ≠ "java/lang/invoke/VarHandle" ∧ (parseMethodDescriptor y.desc).map (fun d => d.parameters.length) = some n) ∧
    ((Jvm.Cond.methodLink own idx y).before args s = true ∨ ∃ host, va_Nw (.methodLinkNest own idx y host) s)
def ev_lkC (W0 : List Jvm.Cond) (cl : List vw_C) (mt : List ev_Me) (own : String) (args : Array Value) (s : State) (i : Instr) (a b t : Nat) : Prop := match i with
  | .invokespecial idx => (b = 0 ∧ (Jvm.Cond.methodLink own idx objectInit).before args s = true ∧ (Jvm.Cond.instanceMethod objectInit).before args s = true ∧ (Jvm.Cond.code objectInit ⟨#[0xb1]⟩ 1 none).before args s = true) ∨
      (∃ n y bytes maxL code, b = n + 1 ∧ mt[a]? = some (y, bytes, maxL, none, code) ∧ ev_lkB W0 args s own idx y bytes maxL none n ∧ y.name = "<init>" ∧ (Jvm.Cond.instanceMethod y).before args s = true)
  | .invokestatic idx => ∃ y bytes maxL rt code, mt[a]? = some (y, bytes, maxL, rt, code) ∧ ev_lkB W0 args s own idx y bytes maxL rt b ∧ (Jvm.Cond.static y).before args s = true
  | .invokevirtual idx => ∃ n y bytes maxL rt code C T N, b = n + 1 ∧ mt[a]? = some (y, bytes, maxL, rt, code) ∧ cl[t]? = some (C, T, N) ∧ t < 1000 ∧ ev_lkB W0 args s own idx y bytes maxL rt n ∧ (Jvm.Cond.instanceMethod y).before args s = true ∧ (Jvm.Cond.selects C y y).before args s = true
  | _ => True
/-- callees' contracts, out of their evaluation -/
def ev_Cal (l : Launch) (D : va_G) (cl : List vw_C) (dfl : Nat → Nat) (tyf : Nat → Nat → FieldType) (ka : ev_KA) (oc : String) (W0 WN : List Jvm.Cond) (mt : List ev_Me) (wsR : va_W) (d : Nat) (callf : Nat → List Nat → ev_H → Option ev_A) : Prop :=
  ∀ (mid : Nat) (as : List Nat) (h : ev_H) (ret : Option Nat) (h' : ev_H) (mc ms : Nat), callf mid as h = some (ret, h', mc, ms) → ∀ (y : MethodName) (bytes : ByteArray) (maxL : Nat) (rt : Option FieldType) (code : List (List ev_I)), mt[mid]? = some (y, bytes, maxL, rt, code) →
    ∀ (ads : List Nat) (tys : List (ClassId × FieldType)) (ws : va_W) (vs : List Value) (sz : Nat), ev_S ka ads as vs → ev_M ka oc tys ads h (wsR ++ ws) →
      Met l y (Jvm.Cond.code y bytes maxL rt :: W0) { frames := d, cells := mc, slots := ms, locals := 64 * d } (ev_Pc D cl dfl tyf ka tys WN wsR ws sz vs) (ev_Qc D cl ka oc wsR ws tys ads sz ret h') mc ms (va_A ws sz)
section EVR
variable {p : Program} {l : Launch} {e : Env} {R : Room} {s : State} {m : MethodId} {args : Array Value} {below : List Frame} {meth : Method} {c : Code} {H : Heap} {locs : List Loc} {cells slots : Nat} {Q : State → Prop} {cc : ByteArray}
variable {D : va_G} {cl : List vw_C} {tys : List (ClassId × FieldType)} {A : Nat → Prop} {H0 : Heap} {wsR ws : va_W} {oc own : String} {dfl : Nat → Nat} {tyf : Nat → Nat → FieldType} {W0 WN : List Jvm.Cond} {mt : List ev_Me}
/-- behind a call -/
theorem ev_back {ka : ev_KA} {mc ms pc sz : Nat} {ls : Array Slot} {st0 rest : List Value} {ads : List Nat} {ret : Option Nat} {h' : ev_H} {a : Array Value} (hr : va_Run p l e R s m args below meth c H locs cells slots mc ms (F0 m pc ls st0) rest (ev_Qc D cl ka oc wsR ws tys ads sz ret h' a) (va_A ws sz)) (hsz : H.size = sz) (hD : va_D A ws) (hS : va_S A H0 H locs) (hA : ∀ q, H0.size ≤ q → A q)
    (kk : ∀ (l2 : List Nat) (t2 : List (ClassId × FieldType)) (ws' : va_W) (v : Option Value) (H' : Heap) (locs' : List Loc), ev_rv ka (ads ++ l2) ret v → ev_M ka oc (tys ++ t2) (ads ++ l2) h' (wsR ++ ws') → va_K D cl (tys ++ t2) s → ev_W D cl A H0 wsR ws' H' locs' → W p l e R s m args below meth c H' locs' (cells + mc) (slots + ms) Q (F0 m (pc + 3) ls (v.toList ++ rest))) : W p l e R s m args below meth c H locs cells slots Q (F0 m pc ls st0) := by
  intro T hT X
  obtain ⟨v, st₀, t, T', L, h0, X', hL, e1, e2, ⟨⟨l2, t2, ws', v', hv, g1, g2, g3, g4, g5⟩, hz, hk⟩, st⟩ := hr T hT X
  cases hv
  have hF : ∀ q, va_A ws sz q → A q := by
    intro q h
    rcases h with ⟨k, e, h⟩ | h
    · exact hD.2 k (q, e) h
    · exact hA q (Nat.le_trans hS.1 (by rw [hsz]; exact h))
  rw [h0] at hz hk
  have hvm : s.vm.Alike t.vm := by rw [← e2]; exact X'.warmed.alike
  obtain ⟨t3, a1, b1⟩ := kk l2 t2 ws' v T'.heap (locs ++ L) g1 g2 (va_K.moved hvm.symm g4)
    ⟨by rw [e1]; exact g3, g5.weaken (fun k q _ h => hF q.1 h), Nat.le_trans hS.1 (by rw [e1]; exact hz), fun q h1 h2 => by rw [e1, hk q (Nat.lt_of_lt_of_le h1 hS.1) (fun z => h2 (hF q z))]; exact hS.2.1 q h1 h2, fun q hq => by
      rcases List.mem_append.mp hq with h | h
      · exact hS.2.2 q h
      · exact hF _ (hL q h)⟩ T' rfl X'
  exact ⟨t3, st t3 a1, b1⟩
theorem ev_inv_s {callf : Nat → List Nat → ev_H → Option ev_A} {mid n pc nc ns pc' nc' ns' : Nat} {L st L' st' : List Nat} {h h' : ev_H} (hs : ev_inv callf mid n pc L st h nc ns = some ((pc', L', st'), h', nc', ns')) :
    n ≤ st.length ∧ ev_cat (st.drop n) ≤ 8 ∧ pc' = pc + 3 ∧ L' = L ∧ ∃ ret mc ms, callf mid (st.take n).reverse h = some (ret, h', mc, ms) ∧ st' = ret.toList ++ st.drop n ∧ nc' = nc + mc ∧ ns' = ns + ms := by
  unfold ev_inv at hs
  cases hq : (Nat.ble n st.length && Nat.ble (ev_cat (st.drop n)) 8)
  · rw [hq, cond_false] at hs; cases hs
  · rw [hq, cond_true] at hs
    simp only [Bool.and_eq_true] at hq
    refine ⟨Nat.le_of_ble_eq_true hq.1, Nat.le_of_ble_eq_true hq.2, ?_⟩
    split at hs
    · rename_i r h2 mc ms hc
      simp only [Option.some.injEq, Prod.mk.injEq] at hs
      obtain ⟨⟨rfl, rfl, rfl⟩, rfl, rfl, rfl⟩ := hs
      exact ⟨rfl, rfl, some r, mc, ms, hc, rfl, rfl, rfl⟩
    · rename_i h2 mc ms hc
      simp only [Option.some.injEq, Prod.mk.injEq] at hs
      obtain ⟨⟨rfl, rfl, rfl⟩, rfl, rfl, rfl⟩ := hs
      exact ⟨rfl, rfl, none, mc, ms, hc, rfl, rfl, rfl⟩
    · cases hs
theorem ev_rv.S {ka : ev_KA} {ads : List Nat} {r : Option Nat} {v : Option Value} {st : List Nat} {vs : List Value} (h : ev_rv ka ads r v) (hS : ev_S ka ads st vs) : ev_S ka ads (r.toList ++ st) (v.toList ++ vs) := by
  match r, v, h with
  | none, none, _ => exact hS
  | some x, some w, h => exact ⟨h, hS⟩
theorem ev_listrev {α : Type} {a : List α} {n : Nat} (h : a.length = n + 1) : ∃ b As, a.reverse = b :: As ∧ As.length = n ∧ a = As.reverse ++ [b] := by
  have hne : a.reverse ≠ [] := by
    intro q
    have : a.reverse.length = 0 := by rw [q]; rfl
    simp [h] at this
  obtain ⟨b, As, hb⟩ := List.exists_cons_of_ne_nil hne
  refine ⟨b, As, hb, ?_, ?_⟩
  · have : a.reverse.length = n + 1 := by simp [h]
    rw [hb] at this
    simpa using this
  · have := congrArg List.reverse hb
    simpa using this
/-- the receiver of a call -/
theorem ev_rcv {ka : ev_KA} {ads st rst : List Nat} {vs As : List Value} {n rv : Nat} {bv : Value} (hS : ev_S ka ads st vs) (hn : n + 1 ≤ st.length) (hdrop : st.drop n = rv :: rst) (q2 : As.length = n) (hst : vs = As.reverse ++ bv :: vs.drop (n + 1)) : ev_v ka ads rv bv := by
  obtain ⟨-, -, gd, -⟩ := ev_S.split n hS (by omega)
  rw [hdrop] at gd
  obtain ⟨v1, r1, hv1, gv, -⟩ := gd.cons
  have e1 : vs[n]? = some bv := by
    rw [hst, List.getElem?_append_right (by simp [q2]), List.length_reverse, q2, Nat.sub_self]
    rfl
  have e2 : vs[n]? = some v1 := by
    have : (vs.drop n)[0]? = some v1 := by rw [hv1]; rfl
    rw [List.getElem?_drop] at this
    simpa using this
  rw [e1] at e2
  cases e2
  exact gv
set_option maxHeartbeats 4000000 in
theorem ev_step_ok {ka : ev_KA} {callf : Nat → List Nat → ev_H → Option ev_A} {d ls0 : Nat} (hx : p.tables.exec = Jvm.exec) (hb : c.code = cc) (hml : c.maxLocals = ls0) (hW0 : ∀ w ∈ W0, w.before args s = true) (hG : ∀ w ∈ W0, goodWord w = true) (hown : s.vm.findClass own = some m.cls) (hC : ev_Cls W0 cl tyf) (hRO : ev_RO D cl A s.heap wsR) (hA : ∀ q, s.heap.size ≤ q → A q) (hRA : ∀ (k : Nat) (q : Nat × va_E), wsR[k]? = some q → ¬ A q.1) (hRD : va_D (fun _ => True) wsR)
    (hcal : ev_Cal l D cl dfl tyf ka oc W0 WN mt wsR d callf) (hNw : ∀ w ∈ WN, ev_isNest w = true → va_Nw w s) (hCF : ev_CF dfl tyf ka A s) (hRf : d + 1 ≤ R.frames) (hRl : 64 * (d + 1) ≤ R.locals)
    {i : Instr} {n0 a b t pc pc' nc ns nc' ns' : Nat} {L st L' st' ads : List Nat} {h h' : ev_H} {ls : Array Slot} {vs : List Value} (hd : decode cc pc = .ok (i, ev_len i n0)) (hlk : ev_lk cl dfl tyf own (meth.name = "<init>") args s i a b t) (hlc : ev_lkC W0 cl mt own args s i a b t)
    (hs : ev_step wsR.length dfl callf i a b t pc L st h nc ns = some ((pc', L', st'), h', nc', ns')) (hL : ev_L ka ads ls0 L ls) (hS : ev_S ka ads st vs) (hM : ev_M ka oc tys ads h (wsR ++ ws)) (hK : va_K D cl tys s) (hWd : ev_W D cl A s.heap wsR ws H locs)
    (hrc : nc' ≤ R.cells) (hrs : ns' ≤ R.slots)
    (kk : ∀ (ls' : Array Slot) (vs' : List Value) (t2 : List (ClassId × FieldType)) (l2 : List Nat) (ws' : va_W) (H' : Heap) (locs' : List Loc), ev_L ka (ads ++ l2) ls0 L' ls' → ev_S ka (ads ++ l2) st' vs' → ev_M ka oc (tys ++ t2) (ads ++ l2) h' (wsR ++ ws') → va_K D cl (tys ++ t2) s → ev_W D cl A s.heap wsR ws' H' locs' → W p l e R s m args below meth c H' locs' nc' ns' Q (F0 m pc' ls' vs')) :
    W p l e R s m args below meth c H locs nc ns Q (F0 m pc ls vs) := by
  obtain ⟨hP, hD, hSS⟩ := id hWd
  have hDD : va_D (fun _ => True) (wsR ++ ws) := va_D.app hRD (hD.weaken (fun _ _ _ _ => trivial)) (fun i j x y hx hy hxy => hRA i x hx (by rw [hxy]; exact hD.2 j y hy))
  have hpre : ∀ (vs2 : List Value) (U : State), U.heap = H → s.WarmedH U.vm → ev_Pc D cl dfl tyf ka tys WN wsR ws H.size vs2 vs2.toArray U := fun vs2 U hU hW => ⟨rfl, by rw [hU], by rw [hU]; exact hP, va_K.moved hW.alike hK, hDD, fun w hw hn => ev_nest_warm hn hW (hNw w hw hn), hCF.go hW hU hSS (fun q h => by
    rcases h with ⟨k, e, h⟩ | h
    · exact hD.2 k (q, e) h
    · exact hA q (Nat.le_trans hSS.1 h))⟩
  have hGI : ∀ {y : MethodName} {bytes : ByteArray} {maxL : Nat} {rt : Option FieldType}, Jvm.Cond.code y bytes maxL rt ∈ W0 → GoodIn W0 (Jvm.Cond.code y bytes maxL rt :: W0) := by
    intro y bytes maxL rt hc w hw
    rcases List.mem_cons.mp hw with rfl | hw
    · exact ⟨hc, good_of_word (hG _ hc)⟩
    · exact ⟨hw, good_of_word (hG _ hw)⟩
  have hroom : ∀ {maxL : Nat} {mc ms : Nat}, maxL ≤ 45 → ({ frames := d, cells := mc, slots := ms, locals := 64 * d } : Room).frames + 1 ≤ R.frames ∧ 8 + (maxL + 11) + ({ frames := d, cells := mc, slots := ms, locals := 64 * d } : Room).locals ≤ R.locals := by
    intro maxL mc ms h
    refine ⟨hRf, ?_⟩
    show 8 + (maxL + 11) + 64 * d ≤ R.locals
    omega
  have hmon : ∀ {rest : List Value}, (rest.map fun v => v.category).sum ≤ 8 → ∀ {st0 : List Value}, 2 * (F0 m pc ls st0).monitorRoom + (rest.map fun v => v.category).sum ≤ 8 := by
    intro rest h st0
    show 2 * 0 + _ ≤ 8
    omega
  have fin : ∀ {ret : Option Nat} {mc ms n : Nat} {a0 : Array Value}, n ≤ st.length → pc' = pc + 3 → L' = L → st' = ret.toList ++ st.drop n → nc' = nc + mc → ns' = ns + ms → va_Run p l e R s m args below meth c H locs nc ns mc ms (F0 m pc ls vs) (vs.drop n) (ev_Qc D cl ka oc wsR ws tys ads H.size ret h' a0) (va_A ws H.size) → W p l e R s m args below meth c H locs nc ns Q (F0 m pc ls vs) := by
    intro ret mc ms n a0 hn e1 e2 e3 e4 e5 hr
    subst e1; subst e2; subst e3; subst e4; subst e5
    obtain ⟨-, -, hSd, -⟩ := ev_S.split n hS hn
    exact ev_back hr rfl hD hSS hA (fun l2 t2 ws' v H' locs' g1 g2 g3 g4 => kk ls _ t2 l2 ws' H' locs' hL.mono (g1.S hSd.mono) g2 g3 g4)
  cases i with
  | invokespecial idx =>
    simp only [ev_step] at hs
    rcases hlc with ⟨rfl, k1, k2, k3⟩ | ⟨n, y, bytes, maxL, code, rfl, k1, ⟨k2, k3, k4, k5, k6⟩, k7, k8⟩
    · simp only [Nat.beq_refl, cond_true] at hs
      split at hs
      · rename_i r st0
        obtain ⟨h1, h2⟩ := ev_bif2 hs
        simp only [Bool.and_eq_true] at h1
        simp only [Prod.mk.injEq] at h2
        obtain ⟨⟨rfl, rfl, rfl⟩, rfl, rfl, rfl⟩ := h2
        obtain ⟨v1, r1, rfl, h3, h4⟩ := hS.cons
        obtain ⟨q, _, rfl⟩ := h3.r h1.1
        have h5 := Nat.le_of_ble_eq_true h1.2
        rw [← ev_cat_ok h4] at h5
        refine W.objInit hx hb hown k1 k2 k3 rfl ?_ rfl hd ?_ ?_ ?_
        · show ls.size = _
          rw [hml]
          obtain ⟨_, lv, g1, _⟩ := hL
          exact g1.1
        · show 1 ≤ R.frames
          omega
        · show 2 * 0 + _ + 12 ≤ R.locals
          omega
        · refine kk ls r1 [] [] ws H locs ?_ ?_ ?_ ?_ hWd <;> simpa using by assumption
      · cases hs
    · have : Nat.beq (n + 1) 0 = false := rfl
      rw [this, cond_false] at hs
      split at hs
      · rename_i rv rst hdrop
        rw [show n + 1 - 1 = n from rfl] at hdrop
        cases hq : ev_isR rv
        · rw [hq, cond_false] at hs; cases hs
        · rw [hq, cond_true] at hs
          obtain ⟨h1, h2, h3, h4, ret, mc, ms, h5, h6, h7, h8⟩ := ev_inv_s hs
          obtain ⟨g1, g2, g3, g4⟩ := ev_S.split (n + 1) hS h1
          obtain ⟨bv, As, q1, q2, q3⟩ := ev_listrev g4
          have hM2 := hcal a _ h ret h' mc ms h5 y bytes maxL none code k1 ads tys ws _ H.size g2.reverse hM
          have hst : vs = As.reverse ++ bv :: vs.drop (n + 1) := g1.trans (by rw [q3, List.append_assoc]; rfl)
          obtain ⟨q, _, rfl⟩ := (ev_rcv hS h1 hdrop q2 hst).r hq
          rw [q1] at hM2
          rw [← ev_cat_ok g3] at h2
          have hsz : ls.size = ls0 := by obtain ⟨_, lv, g1, _⟩ := hL; exact g1.1
          refine fin h1 h3 h4 h6 h7 h8 (a0 := (Value.ref q :: As).toArray) ?_
          have hR := hroom (mc := mc) (ms := ms) k2
          rcases k6 with k6 | ⟨host, k6⟩
          · exact va_runI (As := As) ⟨hx, hb, hml, hown, hW0⟩ hM2 ⟨callB_of n hW0 (hGI k3) rfl rfl rfl k4 k6 k5 hR, k7, k8⟩ ⟨ev_Pc.blind, fun U hU hW => hpre _ U hU hW⟩ rfl q2 hsz hst (hmon h2) hd ⟨by omega, by omega⟩
          · exact va_runIN (As := As) ⟨hx, hb, hml, hown, hW0⟩ hM2 ⟨va_cnB n hW0 (hGI k3) rfl rfl rfl k6 k4 k5 hR, k7, k8⟩ ⟨ev_Pc.blind, fun U hU hW => hpre _ U hU hW⟩ rfl q2 hsz hst (hmon h2) hd ⟨by omega, by omega⟩
      · cases hs
  | invokestatic idx =>
    simp only [ev_step] at hs
    obtain ⟨y, bytes, maxL, rt, code, k1, ⟨k2, k3, k4, k5, k6⟩, k7⟩ := hlc
    obtain ⟨h1, h2, h3, h4, ret, mc, ms, h5, h6, h7, h8⟩ := ev_inv_s hs
    obtain ⟨g1, g2, g3, g4⟩ := ev_S.split b hS h1
    have hM2 := hcal a _ h ret h' mc ms h5 y bytes maxL rt code k1 ads tys ws _ H.size g2.reverse hM
    have hstk : (F0 m pc ls vs).stack = ((vs.take b).reverse).reverse ++ vs.drop b := by
      show vs = _
      rw [List.reverse_reverse]
      exact g1
    rw [← ev_cat_ok g3] at h2
    have hsz : ls.size = ls0 := by obtain ⟨_, lv, g1, _⟩ := hL; exact g1.1
    have hln : ((vs.take b).reverse).length = b := by rw [List.length_reverse]; exact g4
    refine fin h1 h3 h4 h6 h7 h8 (a0 := ((vs.take b).reverse).toArray) ?_
    rcases k6 with k6 | ⟨host, k6⟩
    · exact va_runS (As := (vs.take b).reverse) ⟨hx, hb, hml, hown, hW0⟩ hM2 ⟨callB_of b hW0 (hGI k3) rfl rfl rfl k4 k6 k5 (hroom k2), k7⟩ ⟨ev_Pc.blind, fun U hU hW => hpre _ U hU hW⟩ rfl hln hsz hstk (hmon h2) hd ⟨by omega, by omega⟩
    · exact va_runSN (As := (vs.take b).reverse) ⟨hx, hb, hml, hown, hW0⟩ hM2 ⟨va_cnB b hW0 (hGI k3) rfl rfl rfl k6 k4 k5 (hroom k2), k7, trivial⟩ ⟨ev_Pc.blind, fun U hU hW => hpre _ U hU hW⟩ rfl hln hsz hstk (hmon h2) hd ⟨by omega, by omega⟩
  | invokevirtual idx =>
    simp only [ev_step] at hs
    obtain ⟨n, y, bytes, maxL, rt, code, C, T, N, rfl, k1, kc, kt, ⟨k2, k3, k4, k5, k6⟩, k7, k8⟩ := hlc
    split at hs
    · rename_i rv rst hdrop
      split at hs
      · rename_i x ho
        cases hq : (Nat.beq x.1 t && Nat.blt 0 (n + 1))
        · rw [hq, cond_false] at hs; cases hs
        · rw [hq, cond_true] at hs
          simp only [Bool.and_eq_true] at hq
          obtain ⟨h1, h2, h3, h4, ret, mc, ms, h5, h6, h7, h8⟩ := ev_inv_s hs
          obtain ⟨g1, g2, g3, g4⟩ := ev_S.split (n + 1) hS h1
          obtain ⟨bv, As, q1, q2, q3⟩ := ev_listrev g4
          have hM2 := hcal a _ h ret h' mc ms h5 y bytes maxL rt code k1 ads tys ws _ H.size g2.reverse hM
          have hst : vs = As.reverse ++ bv :: vs.drop (n + 1) := g1.trans (by rw [q3, List.append_assoc]; rfl)
          rw [show n + 1 - 1 = n from rfl] at hdrop
          have gv := ev_rcv hS h1 hdrop q2 hst
          obtain ⟨q, e0, z1, rfl, z3, z4, z5⟩ := hM.o ho gv
          have hxt := Nat.eq_of_beq_eq_true hq.1
          obtain ⟨fs, rfl, f2, f3⟩ := z5.obj (hxt ▸ kt)
          rw [hxt] at z4
          rw [q1] at hM2
          rw [← ev_cat_ok g3] at h2
          have hsz : ls.size = ls0 := by obtain ⟨_, lv, g1, _⟩ := hL; exact g1.1
          have hrecv := va_recv hK hP kc z4
          have hR := hroom (mc := mc) (ms := ms) k2
          refine fin h1 h3 h4 h6 h7 h8 (a0 := (Value.ref q :: As).toArray) ?_
          rcases k6 with k6 | ⟨host, k6⟩
          · exact va_runV (As := As) (C := C) ⟨hx, hb, hml, hown, hW0⟩ hM2 ⟨callB_of n hW0 (hGI k3) rfl rfl rfl k4 k6 k5 hR, k7, k8⟩ ⟨ev_Pc.blind, hrecv, fun U hU hW => hpre _ U hU hW⟩ rfl q2 hsz hst (hmon h2) hd ⟨by omega, by omega⟩
          · exact va_runVN (As := As) (C := C) ⟨hx, hb, hml, hown, hW0⟩ hM2 ⟨va_cnB n hW0 (hGI k3) rfl rfl rfl k6 k4 k5 hR, k7, k8⟩ ⟨ev_Pc.blind, hrecv, fun U hU hW => hpre _ U hU hW⟩ rfl q2 hsz hst (hmon h2) hd ⟨by omega, by omega⟩
      · cases hs
    · cases hs
  | _ =>
    simp only [ev_step] at hs
    exact ev_H_ok hx hb hW0 hown hC hRO hA hd hlk hs hL hS hM hK hWd hrc hrs kk
end EVR
