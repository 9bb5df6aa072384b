/-! ===== 41: the law's calls over abstract worlds: the class's object and the reference's object, each by what it stands for ===== -/
abbrev wl_Y : Type := List (ClassId × FieldType)
/-- what throws and catches ask -/
def wl_EE (A : Nat → Prop) (U : State) : Prop := lw_E A U ∧ va_Nc "java/lang/IllegalArgumentException" "java/lang/IllegalStateException" U
theorem wl_EE.go {A B : Nat → Prop} {s U : State} {H : Heap} {locs : List Loc} (h : wl_EE A s) (hW : s.WarmedH U.vm) (hU : U.heap = H) (hS : va_S A s.heap H locs) (hAB : ∀ q, B q → A q) : wl_EE B U := ⟨h.1.go hW hU hS hAB, h.2.moved hW.alike⟩
theorem wl_EE.calling {A : Nat → Prop} {U : State} {g : JFrame} {mk : MethodId} {a : Array Value} (h : wl_EE A U) : wl_EE A (U.calling g mk a) := ⟨h.1.calling, va_Nc.moved (u := U) (U := U.calling g mk a) (Vm.Alike.refl U.vm) h.2⟩
/-- what a method's start gives besides its world: nest links, constants, what throws ask -/
def wl_V (ka : ev_KA) (A : Nat → Prop) (U : State) : Prop := (∀ w ∈ al_WN, ev_isNest w = true → va_Nw w U) ∧ ev_CF al_dfl al_tyf ka A U ∧ wl_EE A U
def wl_Pc (D : va_G) (ka : ev_KA) (tys : wl_Y) (ws : va_W) (sz : Nat) (vs : List Value) : Array Value → State → Prop := va_Pc vs (fun U => U.heap.size = sz ∧ va_P D al_cl ws U.heap ∧ va_K D al_cl tys U ∧ va_D (fun _ => True) ws ∧ wl_V ka (va_A ws sz) U)
theorem wl_Pc.blind {D : va_G} {ka : ev_KA} {tys : wl_Y} {ws : va_W} {sz : Nat} {vs : List Value} : FrameBlind (wl_Pc D ka tys ws sz vs) := by
  intro a U g mk h
  obtain ⟨h0, h1, h2, h3, h4, h5, h6, h7⟩ := h
  exact ⟨h0, h1, h2, va_K.moved (u := U) (U := U.calling g mk a) (Vm.Alike.refl U.vm) h3, h4, fun w hw hn => va_Nw.same (u := U) (U := U.calling g mk a) (ev_nest_on hn) rfl (h5 w hw hn), h6.calling, h7.calling⟩
/-- an end: an answer and a world that P says, nothing else written -/
def wl_Q (D : va_G) (P : Option Value → wl_Y → va_W → Prop) (ws : va_W) (sz : Nat) : Array Value → State → Outcome → State → Prop := fun _ st o t =>
  (∃ (v : Option Value) (t2 : wl_Y) (w2 : va_W), o = .returned v ∧ P v t2 w2 ∧ va_P D al_cl w2 t.heap ∧ va_K D al_cl t2 t ∧ va_D (va_A ws sz) w2) ∧ va_F (va_A ws sz) st t
/-- a method's contract over all worlds of a kind -/
def wl_M (l : Launch) (D : va_G) (ka : ev_KA) (y : MethodName) (wd : List Jvm.Cond) (fr lo : Nat) (P0 : wl_Y → va_W → Prop) (vs : List Value) (P1 : Option Value → wl_Y → va_W → Prop) (mc ms : Nat) : Prop :=
  ∀ (tys : wl_Y) (ws : va_W) (sz : Nat), P0 tys ws → Met l y wd ({ frames := fr, cells := mc, slots := ms, locals := lo } : Jvm.Room) (wl_Pc D ka tys ws sz vs) (wl_Q D P1 ws sz) mc ms (va_A ws sz)
section WLB
variable {p : Program} {l : Launch} {e : Env} {R : Room} {s : State} {m : MethodId} {args : Array Value} {below : List Frame} {meth : Method} {c : Code} {H : Heap} {locs : List Loc} {cells slots : Nat} {Q : State → Prop}
variable {D : va_G} {A : Nat → Prop} {H0 : Heap} {ws wf : va_W} {ka : ev_KA} {pc : Nat} {ls : Array Slot} {cc : ByteArray} {tys : wl_Y}
/-- behind a call: the callee's new world beside a world that it doesn't know -/
theorem wl_join {sz : Nat} {w2 : va_W} {H' : Heap} {L : List Loc} (hsz : H.size = sz) (hP : va_P D al_cl (ws ++ wf) H) (hD : va_D A (ws ++ wf)) (hS : va_S A H0 H locs) (hA : ∀ q, H0.size ≤ q → A q) (hz : H.size ≤ H'.size) (hk : ∀ q : Nat, q < H.size → ¬ va_A ws sz q → H'[q]? = H[q]?) (g3 : va_P D al_cl w2 H') (g5 : va_D (va_A ws sz) w2) (hL : ∀ q ∈ L, va_A ws sz q.base) : va_P D al_cl (w2 ++ wf) H' ∧ va_D A (w2 ++ wf) ∧ va_S A H0 H' (locs ++ L) := by
  have hF : ∀ q, va_A ws sz q → A q := by
    intro q h
    rcases h with ⟨k, e, h⟩ | h
    · exact hD.2 k (q, e) (by rw [List.getElem?_append_left (List.getElem?_eq_some_iff.mp h).1]; exact h)
    · exact hA q (Nat.le_trans hS.1 (by rw [hsz]; exact h))
  have hlt : ∀ (k : Nat) (q : Nat × va_E), wf[k]? = some q → q.1 < H.size := fun k q hk => (hP.ev_r k q hk).lt
  have hno : ∀ (k : Nat) (q : Nat × va_E), wf[k]? = some q → ¬ va_A ws sz q.1 := by
    intro k q hk h
    rcases h with ⟨j, e, hj⟩ | h
    · have h1 : (ws ++ wf)[j]? = some (q.1, e) := by rw [List.getElem?_append_left (List.getElem?_eq_some_iff.mp hj).1]; exact hj
      have h2 : (ws ++ wf)[ws.length + k]? = some q := by rw [List.getElem?_append_right (Nat.le_add_right _ _), Nat.add_sub_cancel_left]; exact hk
      have h3 := hD.1 _ _ _ _ h1 h2 rfl
      have h4 := (List.getElem?_eq_some_iff.mp hj).1
      omega
    · have := hlt k q hk
      omega
  refine ⟨va_P.app g3 (hP.ev_r.kept (fun k q hq => hk q.1 (hlt k q hq) (hno k q hq))), va_D.app (g5.weaken (fun k q _ h => hF q.1 h)) hD.ev_r (fun i j x y hx hy hxy => hno j y hy (by rw [← hxy]; exact g5.2 i x hx)), Nat.le_trans hS.1 hz, fun q h1 h2 => by rw [hk q (Nat.lt_of_lt_of_le h1 hS.1) (fun z => h2 (hF q z))]; exact hS.2.1 q h1 h2, fun q hq => ?_⟩
  rcases List.mem_append.mp hq with h | h
  · exact hS.2.2 q h
  · exact hF _ (hL q h)
theorem wl_back {P : Option Value → wl_Y → va_W → Prop} {mc ms sz : Nat} {st0 rest : List Value} {a : Array Value} (hr : va_Run p l e R s m args below meth c H locs cells slots mc ms (F0 m pc ls st0) rest (wl_Q D P ws sz a) (va_A ws sz)) (hsz : H.size = sz) (hP : va_P D al_cl (ws ++ wf) H) (hD : va_D A (ws ++ wf)) (hS : va_S A H0 H locs) (hA : ∀ q, H0.size ≤ q → A q)
    (kk : ∀ (v : Option Value) (t2 : wl_Y) (w2 : va_W) (H' : Heap) (locs' : List Loc), P v t2 w2 → va_K D al_cl t2 s → va_P D al_cl (w2 ++ wf) H' → va_D A (w2 ++ wf) → va_S A H0 H' locs' → W p l e R s m args below meth c H' locs' (cells + mc) (slots + ms) Q (F0 m (pc + 3) ls (v.toList ++ rest))) : W p l e R s m args below meth c H locs cells slots Q (F0 m pc ls st0) := by
  intro T hT X
  obtain ⟨v, st₀, t, T', L, h0, X', hL, e1, e2, ⟨⟨v', t2, w2, hv, g1, g3, g4, g5⟩, hz, hk⟩, st⟩ := hr T hT X
  cases hv
  rw [h0, ← e1] at hz hk
  rw [← e1] at g3
  have hvm : s.vm.Alike t.vm := by rw [← e2]; exact X'.warmed.alike
  obtain ⟨k1, k2, k3⟩ := wl_join hsz hP hD hS hA hz hk g3 g5 hL
  obtain ⟨t3, a1, b1⟩ := kk v t2 w2 T'.heap (locs ++ L) g1 (va_K.moved hvm.symm g4) k1 k2 k3 T' rfl X'
  exact ⟨t3, st t3 a1, b1⟩
theorem wl_pre {vs : List Value} (hN : ∀ w ∈ al_WN, ev_isNest w = true → va_Nw w s) (hCF : ev_CF al_dfl al_tyf ka A s) (hE : wl_EE A s) (hA : ∀ q, s.heap.size ≤ q → A q) (hK : va_K D al_cl tys s) (hP : va_P D al_cl ws H) (hD : va_D A ws) (hS : va_S A s.heap H locs) (U : State) (hU : U.heap = H) (hW : s.WarmedH U.vm) : wl_Pc D ka tys ws H.size vs vs.toArray U := by
  have hAB : ∀ q, va_A ws H.size q → A q := fun q h => by
    rcases h with ⟨k, e, h⟩ | h
    · exact hD.2 k (q, e) h
    · exact hA q (Nat.le_trans hS.1 h)
  exact ⟨rfl, by rw [hU], by rw [hU]; exact hP, va_K.moved hW.alike hK, hD.weaken (fun _ _ _ _ => trivial), fun w hw hn => ev_nest_warm hn hW (hN w hw hn), hCF.go hW hU hS hAB, hE.go hW hU hS hAB⟩
/-- a virtual call on an object, its world known by a predicate -/
theorem wl_callV {own C : String} {T : u_T} {N ci ic maxL mc ms nL q q0 n fr lo : Nat} {y : MethodName} {bytes : ByteArray} {ret : Option FieldType} {P0 : wl_Y → va_W → Prop} {P1 : Option Value → wl_Y → va_W → Prop} {As rest fs : List Value}
    (hx : p.tables.exec = Jvm.exec) (hb : c.code = cc) (hml : c.maxLocals = nL) (hsz : ls.size = nL) (hown : s.vm.findClass own = some m.cls) (hts : ∀ w ∈ lw_tbl, w.before args s = true) (hCF : ev_CF al_dfl al_tyf ka A s) (hE : wl_EE A s) (hA : ∀ q, s.heap.size ≤ q → A q)
    (hM : wl_M l D ka y (lw_w y bytes maxL ret) fr lo P0 (.ref q :: As) P1 mc ms) (h0 : P0 tys ws) (hq : ws[q0]? = some (q, .inr (ci, fs))) (hcl : al_cl[ci]? = some (C, T, N)) (hK : va_K D al_cl tys s) (hP : va_P D al_cl (ws ++ wf) H) (hD : va_D A (ws ++ wf)) (hS : va_S A s.heap H locs)
    (w4 : Jvm.Cond.code y bytes maxL ret ∈ lw_tbl) (g4 : goodWord (Jvm.Cond.code y bytes maxL ret) = true) (w5 : Jvm.Cond.initialized y.cls ∈ lw_tbl) (w6 : Jvm.Cond.methodLink own ic y ∈ lw_tbl) (w7 : Jvm.Cond.instanceMethod y ∈ lw_tbl) (w8 : Jvm.Cond.selects C y y ∈ lw_tbl) (hyd : y.cls ≠ "java/lang/invoke/MethodHandle" ∧ y.cls ≠ "java/lang/invoke/VarHandle" ∧ (parseMethodDescriptor y.desc).map (fun d => d.parameters.length) = some n) (hn : As.length = n)
    (hRf : fr + 1 ≤ R.frames) (hRl : 8 + (maxL + 11) + lo ≤ R.locals) (hRc : cells + mc ≤ R.cells) (hRs : slots + ms ≤ R.slots) (hrest : (rest.map fun v => v.category).sum ≤ 8) (d4 : decode cc pc = .ok (.invokevirtual ic, 3))
    (kk : ∀ (v : Option Value) (t2 : wl_Y) (w2 : va_W) (H' : Heap) (locs' : List Loc), P1 v t2 w2 → va_K D al_cl t2 s → va_P D al_cl (w2 ++ wf) H' → va_D A (w2 ++ wf) → va_S A s.heap H' locs' → W p l e R s m args below meth c H' locs' (cells + mc) (slots + ms) Q (F0 m (pc + 3) ls (v.toList ++ rest))) : W p l e R s m args below meth c H locs cells slots Q (F0 m pc ls (As.reverse ++ .ref q :: rest)) := by
  have hMet := hM tys ws H.size h0
  have hrecv := va_recv hK hP.ef_l (q0 := q0) hcl hq
  exact wl_back (va_runV (As := As) (rest := rest) (C := C) ⟨hx, hb, hml, hown, hts⟩ hMet ⟨callB_of n hts (lw_GoodT w4 g4) rfl rfl rfl (hts _ w5) (hts _ w6) hyd ⟨hRf, hRl⟩, hts _ w7, hts _ w8⟩ ⟨wl_Pc.blind, hrecv, fun U hU hW => wl_pre (fun w hw hn => va_Nw.of (ev_nest_on hn) (hts w (al_words w hw))) hCF hE hA hK hP.ef_l hD.ev_l hS U hU hW⟩ rfl hn hsz rfl (lv_room hrest) d4 ⟨hRc, hRs⟩) rfl hP hD hS hA kk
/-- a call of one of the law's own static methods (they catch) -/
theorem wl_callS {ic maxL mc ms nL n fr lo : Nat} {y : MethodName} {bytes : ByteArray} {ret : Option FieldType} {hh : List (Nat × Nat × Nat × Nat)} {P0 : wl_Y → va_W → Prop} {P1 : Option Value → wl_Y → va_W → Prop} {As rest : List Value}
    (hx : p.tables.exec = Jvm.exec) (hb : c.code = cc) (hml : c.maxLocals = nL) (hsz : ls.size = nL) (hown : s.vm.findClass "TableTongueLaw" = some m.cls) (hts : ∀ w ∈ lw_tbl, w.before args s = true) (hCF : ev_CF al_dfl al_tyf ka A s) (hE : wl_EE A s) (hA : ∀ q, s.heap.size ≤ q → A q)
    (hM : wl_M l D ka y (lw_wH y bytes maxL ret hh) fr lo P0 As P1 mc ms) (h0 : P0 tys ws) (hK : va_K D al_cl tys s) (hP : va_P D al_cl (ws ++ wf) H) (hD : va_D A (ws ++ wf)) (hS : va_S A s.heap H locs)
    (w4 : Jvm.Cond.codeWith y bytes maxL ret hh ∈ lw_tbl) (g4 : goodWord (Jvm.Cond.codeWith y bytes maxL ret hh) = true) (w5 : Jvm.Cond.methodLink "TableTongueLaw" ic y ∈ lw_tbl) (w6 : Jvm.Cond.static y ∈ lw_tbl) (w7 : Jvm.Cond.initialized y.cls ∈ lw_tbl) (hyd : y.cls ≠ "java/lang/invoke/MethodHandle" ∧ y.cls ≠ "java/lang/invoke/VarHandle" ∧ (parseMethodDescriptor y.desc).map (fun d => d.parameters.length) = some n) (hn : As.length = n)
    (hRf : fr + 1 ≤ R.frames) (hRl : 8 + (maxL + 11) + lo ≤ R.locals) (hRc : cells + mc ≤ R.cells) (hRs : slots + ms ≤ R.slots) (hrest : (rest.map fun v => v.category).sum ≤ 8) (d4 : decode cc pc = .ok (.invokestatic ic, 3))
    (kk : ∀ (v : Option Value) (t2 : wl_Y) (w2 : va_W) (H' : Heap) (locs' : List Loc), P1 v t2 w2 → va_K D al_cl t2 s → va_P D al_cl (w2 ++ wf) H' → va_D A (w2 ++ wf) → va_S A s.heap H' locs' → W p l e R s m args below meth c H' locs' (cells + mc) (slots + ms) Q (F0 m (pc + 3) ls (v.toList ++ rest))) : W p l e R s m args below meth c H locs cells slots Q (F0 m pc ls (As.reverse ++ rest)) := by
  have hMet := hM tys ws H.size h0
  exact wl_back (vx_runSW (own := "TableTongueLaw") (As := As) (rest := rest) ⟨hx, hb, hml, hown, hts⟩ hMet (lw_csw n hts w4 g4 w5 w6 w7 rfl rfl hyd ⟨hRf, hRl⟩) ⟨wl_Pc.blind, fun U hU hW => wl_pre (fun w hw hn => va_Nw.of (ev_nest_on hn) (hts w (al_words w hw))) hCF hE hA hK hP.ef_l hD.ev_l hS U hU hW⟩ rfl hn hsz rfl (lv_room hrest) d4 ⟨hRc, hRs⟩) rfl hP hD hS hA kk
end WLB
/-- the law's row of one long -/
abbrev wl_o (o : Nat) (cO : ClassId) (h : Nat → Int64) : Nat × va_E := (o, .inl (cO, 1, .inr (.inl h)))
/-- between two calls: the law's row, the class's world, the reference's world -/
def wl_I (D : va_G) (s : State) (H : Heap) (locs : List Loc) (x0 m0 o : Nat) (cO : ClassId) (h : Nat → Int64) (KX KM : Nat → wl_Y → va_W → Prop) : Prop :=
  ∃ (tX tM : wl_Y) (wX wM : va_W), KX x0 tX wX ∧ KM m0 tM wM ∧ va_P D al_cl ([wl_o o cO h] ++ (wX ++ wM)) H ∧ va_D (fun q : Nat => s.heap.size ≤ q) ([wl_o o cO h] ++ (wX ++ wM)) ∧ va_K D al_cl tX s ∧ va_K D al_cl tM s ∧ va_K D al_cl [(cO, .long)] s ∧ va_S (fun q : Nat => s.heap.size ≤ q) s.heap H locs
/-- its object is there -/
def wl_Rc (ci : Nat) (K : Nat → wl_Y → va_W → Prop) : Prop := ∀ (q : Nat) (t : wl_Y) (w : va_W), K q t w → ∃ (k : Nat) (fs : List Value), w[k]? = some (q, .inr (ci, fs))
/-- the world of one of the law's wrappers -/
def wl_WP (o : Nat) (cO : ClassId) (h : Nat → Int64) (q : Nat) (K : Nat → wl_Y → va_W → Prop) (t : wl_Y) (w : va_W) : Prop := ∃ (t2 : wl_Y) (w2 : va_W), t = (cO, .long) :: t2 ∧ w = wl_o o cO h :: w2 ∧ K q t2 w2
/-- a wrapper's contract: r tells whether the class threw; if not, its answer a lies in the row -/
def wl_Wc (l : Launch) (D : va_G) (ka : ev_KA) (y : MethodName) (wd : List Jvm.Cond) (q : Nat) (K0 K1 : Nat → wl_Y → va_W → Prop) (As : List Value) (r : Int32) (a : Int64) (mc ms : Nat) : Prop :=
  ∀ (o : Nat) (cO : ClassId) (h : Nat → Int64), wl_M l D ka y wd 1950 82000 (wl_WP o cO h q K0) (.ref q :: (As ++ [.ref o])) (fun v t w => ∃ h', v = some (.int r) ∧ (r = 0 → h' 0 = a) ∧ wl_WP o cO h' q K1 t w) mc ms
theorem wl_K_cons {D : va_G} {cO : ClassId} {t2 : wl_Y} {s : State} (h : va_K D al_cl ((cO, .long) :: t2) s) : va_K D al_cl [(cO, .long)] s ∧ va_K D al_cl t2 s :=
  ⟨⟨h.1, fun k q hk => by
    cases k with
    | zero => exact h.2 0 q hk
    | succ k => cases hk⟩, ⟨h.1, fun k q hk => h.2 (k + 1) q hk⟩⟩
theorem wl_K_app {D : va_G} {cO : ClassId} {t2 : wl_Y} {s : State} (h1 : va_K D al_cl [(cO, .long)] s) (h2 : va_K D al_cl t2 s) : va_K D al_cl ((cO, .long) :: t2) s :=
  ⟨h1.1, fun k q hk => by
    cases k with
    | zero => exact h1.2 0 q hk
    | succ k => exact h2.2 k q hk⟩
section WLI
variable {p : Program} {l : Launch} {e : Env} {s : State} {m : MethodId} {below : List Frame} {meth : Method} {c : Code} {b L : Nat} {xs : Nat → Int32} {H : Heap} {locs : List Loc} {cells slots : Nat} {ls : Array Slot} {Q : State → Prop}
variable {D : va_G} {ka : ev_KA} {x0 m0 o : Nat} {cO : ClassId} {h : Nat → Int64} {KX KM K1 : Nat → wl_Y → va_W → Prop} {pc : Nat}
/-- a method of the class, called by the law itself -/
theorem wl_X {ic maxL mc ms n : Nat} {y : MethodName} {bytes : ByteArray} {ret : Option FieldType} {V : Option Value} {As rest : List Value} (C0 : lw_At p s m meth c b L xs) (hsz : ls.size = 8) (hCF : ev_CF al_dfl al_tyf ka (fun q : Nat => s.heap.size ≤ q) s) (hE : wl_EE (fun q : Nat => s.heap.size ≤ q) s) (I : wl_I D s H locs x0 m0 o cO h KX KM) (hRc : wl_Rc 3 KX)
    (hM : wl_M l D ka y (lw_w y bytes maxL ret) 1900 80000 (KX x0) (.ref x0 :: As) (fun v t w => v = V ∧ K1 x0 t w) mc ms)
    (w4 : Jvm.Cond.code y bytes maxL ret ∈ lw_tbl) (g4 : goodWord (Jvm.Cond.code y bytes maxL ret) = true) (w5 : Jvm.Cond.initialized y.cls ∈ lw_tbl) (w6 : Jvm.Cond.methodLink "TableTongueLaw" ic y ∈ lw_tbl) (w7 : Jvm.Cond.instanceMethod y ∈ lw_tbl) (w8 : Jvm.Cond.selects "TableTongue" y y ∈ lw_tbl) (hyd : y.cls ≠ "java/lang/invoke/MethodHandle" ∧ y.cls ≠ "java/lang/invoke/VarHandle" ∧ (parseMethodDescriptor y.desc).map (fun d => d.parameters.length) = some n) (hn : As.length = n)
    (hRl : maxL ≤ 3000) (hc : cells + mc ≤ 601024) (hs : slots + ms ≤ room_1.slots) (hrest : (rest.map fun v => v.category).sum ≤ 8) (d4 : decode code pc = .ok (.invokevirtual ic, 3))
    (kk : ∀ (H' : Heap) (locs' : List Loc), wl_I D s H' locs' x0 m0 o cO h K1 KM → W p l e room_1 s m #[Value.ref b] below meth c H' locs' (cells + mc) (slots + ms) Q (F0 m (pc + 3) ls (V.toList ++ rest))) : W p l e room_1 s m #[Value.ref b] below meth c H locs cells slots Q (F0 m pc ls (As.reverse ++ .ref x0 :: rest)) := by
  obtain ⟨hx, hb, hr, hml, hown, hts, hX, hbl, hlocks, hgv⟩ := C0
  obtain ⟨tX, tM, wX, wM, hKX, hKM, hP, hD, hKx, hKm, hKo, hS⟩ := I
  obtain ⟨q0, fs, hq⟩ := hRc _ _ _ hKX
  have hP1 : va_P D al_cl (wX ++ (wM ++ [wl_o o cO h])) H := by rw [← List.append_assoc]; exact hP.comm
  have hD1 : va_D (fun q : Nat => s.heap.size ≤ q) (wX ++ (wM ++ [wl_o o cO h])) := by rw [← List.append_assoc]; exact hD.comm
  refine wl_callV (C := "TableTongue") hx hb hml hsz hown hts hCF hE (fun _ h => h) hM hKX hq rfl hKx hP1 hD1 hS w4 g4 w5 w6 w7 w8 hyd hn (Nat.le_of_ble_eq_true rfl) (by show 8 + (maxL + 11) + 80000 ≤ 84000; omega) hc hs hrest d4 (fun v t2 w2 H' locs' hv hK2 hP2 hD2 hS2 => ?_)
  obtain ⟨rfl, hK1⟩ := hv
  refine kk H' locs' ⟨t2, tM, w2, wM, hK1, hKM, ?_, ?_, hK2, hKm, hKo, hS2⟩
  · exact va_P.comm (by rw [List.append_assoc]; exact hP2)
  · exact va_D.comm (by rw [List.append_assoc]; exact hD2)
/-- a method of the reference, called by the law -/
theorem wl_R {ic maxL mc ms n : Nat} {y : MethodName} {bytes : ByteArray} {ret : Option FieldType} {V : Option Value} {As rest : List Value} (C0 : lw_At p s m meth c b L xs) (hsz : ls.size = 8) (hCF : ev_CF al_dfl al_tyf ka (fun q : Nat => s.heap.size ≤ q) s) (hE : wl_EE (fun q : Nat => s.heap.size ≤ q) s) (I : wl_I D s H locs x0 m0 o cO h KX KM) (hRc : wl_Rc 0 KM)
    (hM : wl_M l D ka y (lw_w y bytes maxL ret) 1900 80000 (KM m0) (.ref m0 :: As) (fun v t w => v = V ∧ K1 m0 t w) mc ms)
    (w4 : Jvm.Cond.code y bytes maxL ret ∈ lw_tbl) (g4 : goodWord (Jvm.Cond.code y bytes maxL ret) = true) (w5 : Jvm.Cond.initialized y.cls ∈ lw_tbl) (w6 : Jvm.Cond.methodLink "TableTongueLaw" ic y ∈ lw_tbl) (w7 : Jvm.Cond.instanceMethod y ∈ lw_tbl) (w8 : Jvm.Cond.selects "TableTongueModel" y y ∈ lw_tbl) (hyd : y.cls ≠ "java/lang/invoke/MethodHandle" ∧ y.cls ≠ "java/lang/invoke/VarHandle" ∧ (parseMethodDescriptor y.desc).map (fun d => d.parameters.length) = some n) (hn : As.length = n)
    (hRl : maxL ≤ 3000) (hc : cells + mc ≤ 601024) (hs : slots + ms ≤ room_1.slots) (hrest : (rest.map fun v => v.category).sum ≤ 8) (d4 : decode code pc = .ok (.invokevirtual ic, 3))
    (kk : ∀ (H' : Heap) (locs' : List Loc), wl_I D s H' locs' x0 m0 o cO h KX K1 → W p l e room_1 s m #[Value.ref b] below meth c H' locs' (cells + mc) (slots + ms) Q (F0 m (pc + 3) ls (V.toList ++ rest))) : W p l e room_1 s m #[Value.ref b] below meth c H locs cells slots Q (F0 m pc ls (As.reverse ++ .ref m0 :: rest)) := by
  obtain ⟨hx, hb, hr, hml, hown, hts, hX, hbl, hlocks, hgv⟩ := C0
  obtain ⟨tX, tM, wX, wM, hKX, hKM, hP, hD, hKx, hKm, hKo, hS⟩ := I
  obtain ⟨q0, fs, hq⟩ := hRc _ _ _ hKM
  have hP1 : va_P D al_cl (wM ++ ([wl_o o cO h] ++ wX)) H := va_P.comm (by rw [List.append_assoc]; exact hP)
  have hD1 : va_D (fun q : Nat => s.heap.size ≤ q) (wM ++ ([wl_o o cO h] ++ wX)) := va_D.comm (by rw [List.append_assoc]; exact hD)
  refine wl_callV (C := "TableTongueModel") hx hb hml hsz hown hts hCF hE (fun _ h => h) hM hKM hq rfl hKm hP1 hD1 hS w4 g4 w5 w6 w7 w8 hyd hn (Nat.le_of_ble_eq_true rfl) (by show 8 + (maxL + 11) + 80000 ≤ 84000; omega) hc hs hrest d4 (fun v t2 w2 H' locs' hv hK2 hP2 hD2 hS2 => ?_)
  obtain ⟨rfl, hK1⟩ := hv
  refine kk H' locs' ⟨tX, t2, wX, w2, hKX, hK1, ?_, ?_, hKx, hK2, hKo, hS2⟩
  · rw [← List.append_assoc]; exact hP2.comm
  · rw [← List.append_assoc]; exact hD2.comm
/-- one of the law's wrappers -/
theorem wl_S {ic maxL mc ms n : Nat} {y : MethodName} {bytes : ByteArray} {hh : List (Nat × Nat × Nat × Nat)} {r : Int32} {a : Int64} {As rest : List Value} (C0 : lw_At p s m meth c b L xs) (hsz : ls.size = 8) (hCF : ev_CF al_dfl al_tyf ka (fun q : Nat => s.heap.size ≤ q) s) (hE : wl_EE (fun q : Nat => s.heap.size ≤ q) s) (I : wl_I D s H locs x0 m0 o cO h KX KM)
    (hM : wl_Wc l D ka y (lw_wH y bytes maxL (some .int) hh) x0 KX K1 As r a mc ms)
    (w4 : Jvm.Cond.codeWith y bytes maxL (some .int) hh ∈ lw_tbl) (g4 : goodWord (Jvm.Cond.codeWith y bytes maxL (some .int) hh) = true) (w5 : Jvm.Cond.methodLink "TableTongueLaw" ic y ∈ lw_tbl) (w6 : Jvm.Cond.static y ∈ lw_tbl) (w7 : Jvm.Cond.initialized y.cls ∈ lw_tbl) (hyd : y.cls ≠ "java/lang/invoke/MethodHandle" ∧ y.cls ≠ "java/lang/invoke/VarHandle" ∧ (parseMethodDescriptor y.desc).map (fun d => d.parameters.length) = some n) (hn : (Value.ref x0 :: (As ++ [.ref o])).length = n)
    (hRl : maxL ≤ 1000) (hc : cells + mc ≤ 601024) (hs : slots + ms ≤ room_1.slots) (hrest : (rest.map fun v => v.category).sum ≤ 8) (d4 : decode code pc = .ok (.invokestatic ic, 3)) {st0 : List Value} (hst0 : st0 = (Value.ref x0 :: (As ++ [.ref o])).reverse ++ rest)
    (kk : ∀ (H' : Heap) (locs' : List Loc) (h' : Nat → Int64), (r = 0 → h' 0 = a) → wl_I D s H' locs' x0 m0 o cO h' K1 KM → W p l e room_1 s m #[Value.ref b] below meth c H' locs' (cells + mc) (slots + ms) Q (F0 m (pc + 3) ls (.int r :: rest))) : W p l e room_1 s m #[Value.ref b] below meth c H locs cells slots Q (F0 m pc ls st0) := by
  subst hst0
  obtain ⟨hx, hb, hr, hml, hown, hts, hX, hbl, hlocks, hgv⟩ := C0
  obtain ⟨tX, tM, wX, wM, hKX, hKM, hP, hD, hKx, hKm, hKo, hS⟩ := I
  have hP1 : va_P D al_cl ((wl_o o cO h :: wX) ++ wM) H := hP
  have hD1 : va_D (fun q : Nat => s.heap.size ≤ q) ((wl_o o cO h :: wX) ++ wM) := hD
  refine wl_callS hx hb hml hsz hown hts hCF hE (fun _ h => h) (hM o cO h) ⟨tX, wX, rfl, rfl, hKX⟩ (wl_K_app hKo hKx) hP1 hD1 hS w4 g4 w5 w6 w7 hyd hn (Nat.le_of_ble_eq_true rfl) (by show 8 + (maxL + 11) + 82000 ≤ 84000; omega) hc hs hrest d4 (fun v t2 w2 H' locs' hv hK2 hP2 hD2 hS2 => ?_)
  obtain ⟨h', rfl, hr0, t3, w3, rfl, rfl, hK3⟩ := hv
  obtain ⟨k1, k2⟩ := wl_K_cons hK2
  exact kk H' locs' h' hr0 ⟨t3, tM, w3, wM, hK3, hKM, hP2, hD2, k2, hKm, k1, hS2⟩
/-- load's wrapper has no row -/
theorem wl_S0 {ic maxL mc ms : Nat} {y : MethodName} {bytes : ByteArray} {hh : List (Nat × Nat × Nat × Nat)} {r : Int32} {rest : List Value} (C0 : lw_At p s m meth c b L xs) (hsz : ls.size = 8) (hCF : ev_CF al_dfl al_tyf ka (fun q : Nat => s.heap.size ≤ q) s) (hE : wl_EE (fun q : Nat => s.heap.size ≤ q) s) (I : wl_I D s H locs x0 m0 o cO h KX KM)
    (hM : wl_M l D ka y (lw_wH y bytes maxL (some .int) hh) 1950 82000 (KX x0) [.ref x0] (fun v t w => v = some (.int r) ∧ K1 x0 t w) mc ms)
    (w4 : Jvm.Cond.codeWith y bytes maxL (some .int) hh ∈ lw_tbl) (g4 : goodWord (Jvm.Cond.codeWith y bytes maxL (some .int) hh) = true) (w5 : Jvm.Cond.methodLink "TableTongueLaw" ic y ∈ lw_tbl) (w6 : Jvm.Cond.static y ∈ lw_tbl) (w7 : Jvm.Cond.initialized y.cls ∈ lw_tbl) (hyd : y.cls ≠ "java/lang/invoke/MethodHandle" ∧ y.cls ≠ "java/lang/invoke/VarHandle" ∧ (parseMethodDescriptor y.desc).map (fun d => d.parameters.length) = some 1)
    (hRl : maxL ≤ 1000) (hc : cells + mc ≤ 601024) (hs : slots + ms ≤ room_1.slots) (hrest : (rest.map fun v => v.category).sum ≤ 8) (d4 : decode code pc = .ok (.invokestatic ic, 3))
    (kk : ∀ (H' : Heap) (locs' : List Loc), wl_I D s H' locs' x0 m0 o cO h K1 KM → W p l e room_1 s m #[Value.ref b] below meth c H' locs' (cells + mc) (slots + ms) Q (F0 m (pc + 3) ls (.int r :: rest))) : W p l e room_1 s m #[Value.ref b] below meth c H locs cells slots Q (F0 m pc ls (.ref x0 :: rest)) := by
  obtain ⟨hx, hb, hr, hml, hown, hts, hX, hbl, hlocks, hgv⟩ := C0
  obtain ⟨tX, tM, wX, wM, hKX, hKM, hP, hD, hKx, hKm, hKo, hS⟩ := I
  have hP1 : va_P D al_cl (wX ++ (wM ++ [wl_o o cO h])) H := by rw [← List.append_assoc]; exact hP.comm
  have hD1 : va_D (fun q : Nat => s.heap.size ≤ q) (wX ++ (wM ++ [wl_o o cO h])) := by rw [← List.append_assoc]; exact hD.comm
  refine wl_callS (As := [.ref x0]) hx hb hml hsz hown hts hCF hE (fun _ h => h) hM hKX hKx hP1 hD1 hS w4 g4 w5 w6 w7 hyd rfl (Nat.le_of_ble_eq_true rfl) (by show 8 + (maxL + 11) + 82000 ≤ 84000; omega) hc hs hrest d4 (fun v t2 w2 H' locs' hv hK2 hP2 hD2 hS2 => ?_)
  obtain ⟨rfl, hK1⟩ := hv
  refine kk H' locs' ⟨t2, tM, w2, wM, hK1, hKM, ?_, ?_, hK2, hKm, hKo, hS2⟩
  · exact va_P.comm (by rw [List.append_assoc]; exact hP2)
  · exact va_D.comm (by rw [List.append_assoc]; exact hD2)
/-- one int of the script -/
theorem wl_arg {j k : Nat} {lv : List (Nat × Value)} {kn : Int} {rest : List Value} (C0 : lw_At p s m meth c b L xs) (hS : va_S (fun q : Nat => s.heap.size ≤ q) s.heap H locs) (hj : j + k < L) (hL : L ≤ 2048) (hl : lv_has ls 8 lv) (k0 : Nat) (h0 : lv[k0]? = some (0, .ref b)) (k4 : Nat) (h4 : lv[k4]? = some (4, .int (nI j))) (d0 : decode code pc = .ok (.aload_n 0, 1)) (d1 : decode code (pc + 1) = .ok (.iload 4, 2)) (d3 : decode code (pc + 3) = .ok (.iconst kn, 1)) (hk : Int32.ofInt kn = nI k) (d4 : decode code (pc + 4) = .ok (.iadd, 1)) (d5 : decode code (pc + 5) = .ok (.iaload, 1))
    (kk : W p l e room_1 s m #[Value.ref b] below meth c H locs cells slots Q (F0 m (pc + 6) ls (.int (xs (j + k)) :: rest))) : W p l e room_1 s m #[Value.ref b] below meth c H locs cells slots Q (F0 m pc ls rest) := by
  obtain ⟨hx, hb, hr, hml, hown, hts, hX, hbl, hlocks, hgv⟩ := C0
  have hbA : ¬ (fun q : Nat => s.heap.size ≤ q) b := Nat.not_le.mpr hbl
  refine lv_aload_n hx hb d0 rfl (lv_at hl k0 h0) ?_
  refine lv_iload hx hb d1 (lv_at hl k4 h4) ?_
  refine lv_iconst (v := nI k) hx hb d3 hk ?_
  refine lv_iadd hx hb d4 ?_
  have e1 : nI j + nI k = nI (j + k) := nI_add j k
  have e2 : (nI (j + k)).toNatClampNeg = j + k := nI_clamp (by omega)
  rw [e1]
  refine va_sld hx hb hX hbl hbA hS (i := nI (j + k)) (vp_in_nI hj (by omega)) d5 ?_
  rw [e2]
  exact kk
end WLI
