/-! ===== 26: words and worlds of the small contracts (the face's methods on fresh objects) ===== -/
def lw_G : List Jvm.Cond := lw_tbl.filter goodWord
abbrev lw_w (y : MethodName) (b : ByteArray) (n : Nat) (r : Option FieldType) : List Jvm.Cond := Jvm.Cond.code y b n r :: lw_G
abbrev lw_wH (y : MethodName) (b : ByteArray) (n : Nat) (r : Option FieldType) (hh : List (Nat × Nat × Nat × Nat)) : List Jvm.Cond := Jvm.Cond.codeWith y b n r hh :: lw_G
theorem lw_in {w : Jvm.Cond} (i : Nat) (h : lw_tbl[i]? = some w) (g : goodWord w = true) : w ∈ lw_G := List.mem_filter.mpr ⟨List.mem_of_getElem? h, g⟩
theorem lw_Gt {w : Jvm.Cond} (h : w ∈ lw_G) : w ∈ lw_tbl := (List.mem_filter.mp h).1
theorem lw_Gg {w : Jvm.Cond} (h : w ∈ lw_G) : goodWord w = true := (List.mem_filter.mp h).2
theorem lw_u {ci : Nat} {C : String} {T : u_T} {N : Nat} (h : al_cl[ci]? = some (C, T, N)) : ∀ w ∈ u_ws C T N, w ∈ lw_G := fun w hw => by
  have h1 := (al_Cls.2 ci C T N h).1 w hw
  exact List.mem_filter.mpr ⟨al_words w (List.mem_filter.mp h1).1, al_good w h1⟩
/-- castings: words of the tables that hold on -/
def lw_isC (w : Jvm.Cond) : Bool := match w with
  | .castable _ _ => true
  | .declares _ => true
  | _ => false
/-- what a throw asks of the state -/
def lw_E (A : Nat → Prop) (U : State) : Prop := vx_Zq Bundle.tN "UNASSIGNED_STACK" Bundle.steD A U U.heap ∧ vx_Zq Bundle.tN "SUPPRESSED_SENTINEL" Bundle.listD A U U.heap ∧ ∀ w ∈ lw_tbl, lw_isC w = true → va_Nw w U
theorem lw_E.go {A B : Nat → Prop} {s U : State} {H : Heap} {locs : List Loc} (h : lw_E A s) (hW : s.WarmedH U.vm) (hU : U.heap = H) (hS : va_S A s.heap H locs) (hAB : ∀ q, B q → A q) : lw_E B U := by
  subst hU
  obtain ⟨h1, h2, h3⟩ := h
  refine ⟨(vx_Zq.moved hW.alike (h1.kept hS.2.1)).narrow hAB, (vx_Zq.moved hW.alike (h2.kept hS.2.1)).narrow hAB, fun w hw hc => ?_⟩
  cases w <;> first
    | exact va_Nw.warmC hW (h3 _ hw hc)
    | exact va_Nw.warmD hW (h3 _ hw hc)
    | cases hc
theorem lw_onT {w : Jvm.Cond} (h : lw_isC w = true) : w.onTables = true := by
  cases w <;> first
    | rfl
    | cases h
theorem lw_E.calling {A : Nat → Prop} {U : State} {g : JFrame} {mk : MethodId} {a : Array Value} (h : lw_E A U) : lw_E A (U.calling g mk a) :=
  ⟨vx_Zq.moved (u := U) (U := U.calling g mk a) (Vm.Alike.refl U.vm) h.1, vx_Zq.moved (u := U) (U := U.calling g mk a) (Vm.Alike.refl U.vm) h.2.1, fun w hw hc => va_Nw.same (u := U) (U := U.calling g mk a) (lw_onT hc) rfl (h.2.2 w hw hc)⟩
/-- one object of ours, read only; what a throw asks -/
def lw_PX (D : va_G) (q0 : Nat) (fs : List Value) (sz : Nat) (vs : List Value) : Array Value → State → Prop := va_Pc vs (fun U => U.heap.size = sz ∧ va_P D al_cl [(q0, .inr (3, fs))] U.heap ∧ va_K D al_cl [] U ∧ lw_E (fun q => sz ≤ q) U)
theorem lw_PX.blind {D : va_G} {q0 : Nat} {fs : List Value} {sz : Nat} {vs : List Value} : FrameBlind (lw_PX D q0 fs sz vs) := by
  intro a U g mk h
  obtain ⟨h0, h1, h2, h3, h4⟩ := h
  exact ⟨h0, h1, h2, va_K.moved (u := U) (U := U.calling g mk a) (Vm.Alike.refl U.vm) h3, h4.calling⟩
abbrev lw_XX (E : String) (sz : Nat) : String → State → State → Prop := vx_X (fun _ : Unit => True) (fun F _ _ => F = E) (fun q => sz ≤ q)
/-- the words of a throw in the class -/
theorem lw_hat {args : Array Value} {s : State} {own : String} {ic : Nat} {X : String} {ns : List String} {A : Nat → Prop} {Ts : List Jvm.Cond} (hts : ∀ w ∈ Ts, w.before args s = true) (hT : ∀ w ∈ lw_G, w ∈ Ts) (hE : lw_E A s) (h1 : ∀ w ∈ vx_at0 own ic X ns, w ∈ lw_tbl) (h2 : ∀ w ∈ vx_at0 own ic X ns, goodWord w = true ∨ lw_isC w = true) : ∀ w ∈ vx_at0 own ic X ns, w.before args s = true := fun w hw => by
  rcases h2 w hw with g | g
  · exact hts w (hT w (List.mem_filter.mpr ⟨h1 w hw, g⟩))
  · exact va_Nw.use (lw_onT g) (hE.2.2 w (h1 w hw) g)
theorem lw_ot {w : Jvm.Cond} (h : goodWord w = true ∨ lw_isC w = true) : vx_ot w = true := by
  unfold vx_ot
  rcases h with g | g
  · rw [g, Bool.or_true]
  · rw [lw_onT g, Bool.true_or]
abbrev lw_sup : List String := ["java/lang/RuntimeException", "java/lang/Exception"]
theorem lw_p_of {l t : List Jvm.Cond} {ps : List Nat} (h : l.map some = ps.map (fun i => t[i]?)) : ∀ w ∈ l, w ∈ t := al_in_of h
set_option maxRecDepth 100000 in
theorem lw_at85 : ∀ w ∈ vx_at0 "TableTongue" 85 "java/lang/IllegalArgumentException" lw_sup, w ∈ lw_tbl := lw_p_of (ps := [412, 1139, 1148, 1153, 1156, 1158, 1140, 1141, 434, 435, 1142, 1147, 1154, 1371, 1129, 1372, 1131, 1373, 1133, 1143, 1145, 1135, 2106, 2107, 2108, 2109, 1120, 2109, 2110, 2111, 2112, 1122, 2112, 2113, 2114, 1140, 1124, 2105, 1118, 1119, 1126, 1127, 1128, 1130, 1132, 1134, 1138, 1137, 1136]) (by decide +kernel)
set_option maxRecDepth 100000 in
theorem lw_at111 : ∀ w ∈ vx_at0 "TableTongue" 111 "java/lang/IndexOutOfBoundsException" lw_sup, w ∈ lw_tbl := lw_p_of (ps := [412, 1139, 1148, 1153, 1156, 1158, 1140, 1141, 434, 435, 1142, 1147, 1154, 1371, 1129, 1372, 1131, 1373, 1133, 1143, 1145, 1135, 2133, 2134, 2135, 2109, 1120, 2109, 2110, 2111, 2112, 1122, 2112, 2113, 2114, 1140, 1124, 2132, 2124, 2125, 2126, 1152, 2127, 2128, 2129, 2130, 1138, 1137, 2131]) (by decide +kernel)
set_option maxRecDepth 100000 in
theorem lw_at128 : ∀ w ∈ vx_at0 "TableTongue" 128 "java/lang/IllegalStateException" lw_sup, w ∈ lw_tbl := lw_p_of (ps := [412, 1139, 1148, 1153, 1156, 1158, 1140, 1141, 434, 435, 1142, 1147, 1154, 1371, 1129, 1372, 1131, 1373, 1133, 1143, 1145, 1135, 2163, 2164, 2165, 2109, 1120, 2109, 2110, 2111, 2112, 1122, 2112, 2113, 2114, 1140, 1124, 2162, 2154, 2155, 2156, 1151, 2157, 2158, 2159, 2160, 1138, 1137, 2161]) (by decide +kernel)
theorem lw_gc {l : List Jvm.Cond} (h : l.all (fun w => goodWord w || lw_isC w) = true) : ∀ w ∈ l, goodWord w = true ∨ lw_isC w = true := fun w hw => by
  have := List.all_eq_true.mp h w hw
  simpa [Bool.or_eq_true] using this
theorem lw_ag85 : ∀ w ∈ vx_at0 "TableTongue" 85 "java/lang/IllegalArgumentException" lw_sup, goodWord w = true ∨ lw_isC w = true := lw_gc (by decide +kernel)
theorem lw_ag111 : ∀ w ∈ vx_at0 "TableTongue" 111 "java/lang/IndexOutOfBoundsException" lw_sup, goodWord w = true ∨ lw_isC w = true := lw_gc (by decide +kernel)
theorem lw_ag128 : ∀ w ∈ vx_at0 "TableTongue" 128 "java/lang/IllegalStateException" lw_sup, goodWord w = true ∨ lw_isC w = true := lw_gc (by decide +kernel)
