/-! ===== 33: an object made by an evaluated constructor, and a call of an evaluated method, from the law's frame ===== -/
theorem va_D.comm {A : Nat → Prop} {a b : va_W} (h : va_D A (a ++ b)) : va_D A (b ++ a) :=
  va_D.app h.ev_r h.ev_l (fun i j p q hp hq e => by
    have h1 : (a ++ b)[a.length + i]? = some p := by rw [List.getElem?_append_right (Nat.le_add_right _ _), Nat.add_sub_cancel_left]; exact hp
    have h2 : (a ++ b)[j]? = some q := by rw [List.getElem?_append_left (List.getElem?_eq_some_iff.mp hq).1]; exact hq
    have h3 := h.1 _ _ _ _ h1 h2 e
    have h4 := (List.getElem?_eq_some_iff.mp hq).1
    omega)
theorem va_P.ef_l {D : va_G} {cl : List vw_C} {w1 w2 : va_W} {H : Heap} (h : va_P D cl (w1 ++ w2) H) : va_P D cl w1 H := fun k q hk => h k q (by rw [List.getElem?_append_left (List.getElem?_eq_some_iff.mp hk).1]; exact hk)
theorem va_P.comm {D : va_G} {cl : List vw_C} {a b : va_W} {H : Heap} (h : va_P D cl (a ++ b) H) : va_P D cl (b ++ a) H := va_P.app h.ev_r h.ef_l
def al_fs (ci N : Nat) : List Value := (List.range N).map (fun j => defaultValue (al_tyf ci j))
def al_dok (ci N : Nat) : Bool := (List.range N).all (fun j => (Nat.beq (ev_tyc (al_tyf ci j)) 10 && Nat.beq (ev_at (al_dfl ci) j) 18446744073709551616) || ((Nat.beq (ev_tyc (al_tyf ci j)) 20 && Nat.beq (ev_at (al_dfl ci) j) 55340232221128654848) || (Nat.blt (ev_tyc (al_tyf ci j)) 3 && Nat.beq (ev_at (al_dfl ci) j) 0)))
theorem al_fresh {ka : ev_KA} {oc : String} {tys : List (ClassId × FieldType)} {ads : List Nat} {ci N : Nat} (hc : ci < 1000) (hd : al_dok ci N = true) : ev_E ka oc tys ads (ci, N, al_dfl ci) (.inr (ci, al_fs ci N)) := by
  refine Or.inl ⟨hc, _, rfl, by simp [al_fs], fun j hj => ⟨defaultValue (al_tyf ci j), by simp [al_fs, show j < N from hj], ?_⟩⟩
  show ev_v ka _ (ev_at (al_dfl ci) j) _
  have h := List.all_eq_true.mp hd j (List.mem_range.mpr hj)
  simp only [Bool.or_eq_true, Bool.and_eq_true] at h
  rcases h with ⟨c1, c2⟩ | ⟨c1, c2⟩ | ⟨c1, c2⟩
  · have c1 := Nat.eq_of_beq_eq_true c1
    rw [Nat.eq_of_beq_eq_true c2]
    cases hty : al_tyf ci j <;> rw [hty] at c1 <;> simp [ev_tyc] at c1
    exact .long (n := 0) (by decide)
  · have c1 := Nat.eq_of_beq_eq_true c1
    rw [Nat.eq_of_beq_eq_true c2]
    cases hty : al_tyf ci j <;> rw [hty] at c1 <;> simp [ev_tyc] at c1
    · exact .null
    · exact .null
  · have c1 := Nat.blt_eq.mp c1
    rw [Nat.eq_of_beq_eq_true c2]
    cases hty : al_tyf ci j <;> rw [hty] at c1 <;> simp [ev_tyc] at c1
    · exact .int (x := 0) (by decide)
    · exact .int (x := 0) (by decide)
    · exact .int (x := 0) (by decide)
theorem al_W0t : ∀ w ∈ al_W0, w ∈ lw_tbl := fun w hw => al_words w (List.mem_filter.mp hw).1
theorem al_goodIn {y : MethodName} {b : ByteArray} {n : Nat} {r : Option FieldType} (h : Jvm.Cond.code y b n r ∈ lw_tbl) (g : goodWord (Jvm.Cond.code y b n r) = true) : GoodIn lw_tbl (Jvm.Cond.code y b n r :: al_W0) := fun w hw => by
  rcases List.mem_cons.mp hw with rfl | hw
  · exact ⟨h, good_of_word g⟩
  · exact ⟨al_W0t w hw, good_of_word (al_good w hw)⟩
section ALM
variable {p : Program} {l : Launch} {e : Env} {R : Room} {s : State} {m : MethodId} {args : Array Value} {below : List Frame} {meth : Method} {c : Code} {H : Heap} {locs : List Loc} {cells slots : Nat} {Q : State → Prop} {cc : ByteArray}
variable {D : va_G} {A : Nat → Prop} {ws wf : va_W} {ka : ev_KA} {pc : Nat} {ls : Array Slot}
/-- the start of an evaluated method, from the law's frame -/
theorem al_pre {tys : List (ClassId × FieldType)} {vs : List Value} (hts : ∀ w ∈ lw_tbl, w.before args s = true) (hCF : ev_CF al_dfl al_tyf ka A s) (hA : ∀ q, s.heap.size ≤ q → A q) (hK : va_K D al_cl tys s) (hP : va_P D al_cl ws H) (hD : va_D A ws) (hS : va_S A s.heap H locs) (U : State) (hU : U.heap = H) (hW : s.WarmedH U.vm) : ev_Pc D al_cl al_dfl al_tyf ka tys al_WN [] ws H.size vs vs.toArray U := by
  refine ⟨rfl, by rw [hU], by rw [hU]; exact hP, va_K.moved hW.alike hK, hD.weaken (fun _ _ _ _ => trivial), fun w hw hn => ev_nest_warm hn hW (va_Nw.of (ev_nest_on hn) (hts w (al_words w hw))), hCF.go hW hU hS (fun q h => ?_)⟩
  rcases h with ⟨k, e, h⟩ | h
  · exact hD.2 k (q, e) h
  · exact hA q (Nat.le_trans hS.1 h)
set_option maxHeartbeats 4000000 in
theorem lw_mk {own C : String} {T : u_T} {N ci idx ic mid d maxL mc ms nL : Nat} {y : MethodName} {bytes : ByteArray} {code : List (List ev_I)} {h' : ev_H} (hx : p.tables.exec = Jvm.exec) (hb : c.code = cc) (hml : c.maxLocals = nL) (hsz : ls.size = nL) (hown : s.vm.findClass own = some m.cls) (hts : ∀ w ∈ lw_tbl, w.before args s = true) (hCF : ev_CF al_dfl al_tyf ka A s) (hA : ∀ q, s.heap.size ≤ q → A q) (hcl : al_cl[ci]? = some (C, T, N)) (hc : ci < 1000) (hdk : al_dok ci N = true)
    (hK : va_K D al_cl [] s) (hP : va_P D al_cl wf H) (hD : va_D A wf) (hS : va_S A s.heap H locs)
    (w1 : Jvm.Cond.classLink own idx C ∈ lw_tbl) (w2 : Jvm.Cond.instantiable C N ∈ lw_tbl) (w3 : Jvm.Cond.initialized C ∈ lw_tbl) (w4 : Jvm.Cond.code y bytes maxL none ∈ lw_tbl) (g4 : goodWord (Jvm.Cond.code y bytes maxL none) = true) (w5 : Jvm.Cond.initialized y.cls ∈ lw_tbl) (w6 : Jvm.Cond.methodLink own ic y ∈ lw_tbl) (w7 : Jvm.Cond.instanceMethod y ∈ lw_tbl) (hy : y.name = "<init>") (hyd : y.cls ≠ "java/lang/invoke/MethodHandle" ∧ y.cls ≠ "java/lang/invoke/VarHandle" ∧ (parseMethodDescriptor y.desc).map (fun d => d.parameters.length) = some 0)
    (hmt : al_mt[mid]? = some (y, bytes, maxL, none, code)) (hev : ev_met 0 al_dfl al_mt d mid [36893488147419103232] [(ci, N, al_dfl ci)] = some (none, h', mc, ms))
    (hRf : d + 1 ≤ R.frames) (hRl : 8 + (maxL + 11) + 64 * d ≤ R.locals) (hRc : cells + 1 + mc ≤ R.cells) (hRs : slots + N + ms ≤ R.slots)
    (d0 : decode cc pc = .ok (.new idx, 3)) (d3 : decode cc (pc + 3) = .ok (.dup, 1)) (d4 : decode cc (pc + 4) = .ok (.invokespecial ic, 3))
    (kk : ∀ (q : Nat) (l2 : List Nat) (t2 : List (ClassId × FieldType)) (ws' : va_W) (H' : Heap) (locs' : List Loc), ev_M ka "TableTongue$Part" t2 (q :: l2) h' ws' → va_K D al_cl t2 s → va_P D al_cl (ws' ++ wf) H' → va_D A (ws' ++ wf) → va_S A s.heap H' locs' → W p l e R s m args below meth c H' locs' (cells + 1 + mc) (slots + N + ms) Q (F0 m (pc + 7) ls [.ref q])) : W p l e R s m args below meth c H locs cells slots Q (F0 m pc ls []) := by
  refine va_new (fs := al_fs ci N) hx hb hts (fun w hw => al_W0t w ((al_Cls.2 ci C T N hcl).1 w hw)) (al_tyf ci) (al_Cls.2 ci C T N hcl).2.1 hown (hts _ w1) (hts _ w2) (hts _ w3) hK hP hD hS hA hcl (fun j hj => ?_) (by omega) (by omega) d0 (fun q H1 hP1 hD1 hS1 => ?_)
  · unfold vp_V al_fs
    simp [List.getD_eq_getElem?_getD, hj]
  · refine lv_dup hx hb d3 rfl ?_
    have hP2 := hP1.comm
    have hD2 := hD1.comm
    have hM0 : ev_M ka "TableTongue$Part" [] [q] [(ci, N, al_dfl ci)] ([] ++ [(q, .inr (ci, al_fs ci N))]) := by
      refine ⟨rfl, rfl, fun k x hx => ?_⟩
      cases k with
      | zero => cases hx; exact ⟨q, _, rfl, rfl, al_fresh hc hdk⟩
      | succ k => cases hx
    have hS0 : ev_S ka [q] [36893488147419103232] [.ref q] := ⟨Or.inr (Or.inr (Or.inl ⟨0, q, by decide, rfl, rfl, rfl⟩)), trivial⟩
    have hMet := al_cal l D ka d mid _ _ _ _ _ _ hev y bytes maxL none code hmt [q] [] [(q, .inr (ci, al_fs ci N))] [.ref q] H1.size hS0 hM0
    refine ev_backF (va_runI (As := []) (rest := [.ref q]) ⟨hx, hb, hml, hown, hts⟩ hMet ⟨callB_of 0 hts (al_goodIn w4 g4) rfl rfl rfl (hts _ w5) (hts _ w6) hyd ⟨hRf, hRl⟩, hy, hts _ w7⟩ ⟨ev_Pc.blind, fun U hU hW => al_pre hts hCF hA hK hP2.ef_l hD2.ev_l hS1 U hU hW⟩ rfl rfl hsz rfl (lv_room (Nat.le_of_ble_eq_true rfl)) d4 ⟨hRc, hRs⟩) rfl hP2 hD2 hS1 hA (fun l2 t2 ws' v H' locs' hv hM hK2 hP3 hD3 hS3 => ?_)
    cases v with
    | none => exact kk q l2 t2 ws' H' locs' hM hK2 hP3 hD3 hS3
    | some v => exact hv.elim
set_option maxHeartbeats 4000000 in
/-- a virtual call without arguments on an evaluated object: its answer an int -/
theorem lw_vc {own C : String} {T : u_T} {N ci ic mid d maxL mc ms nL q r : Nat} {y : MethodName} {bytes : ByteArray} {code : List (List ev_I)} {h h' : ev_H} {x : ev_C} {ads : List Nat} {tys : List (ClassId × FieldType)} {rest : List Value} (hx : p.tables.exec = Jvm.exec) (hb : c.code = cc) (hml : c.maxLocals = nL) (hsz : ls.size = nL) (hown : s.vm.findClass own = some m.cls) (hts : ∀ w ∈ lw_tbl, w.before args s = true) (hCF : ev_CF al_dfl al_tyf ka A s) (hA : ∀ q, s.heap.size ≤ q → A q)
    (hM : ev_M ka "TableTongue$Part" tys (q :: ads) h ws) (hh : h[0]? = some (ci, N, x.2.2)) (hc : ci < 1000) (hcl : al_cl[ci]? = some (C, T, N)) (hK : va_K D al_cl tys s) (hP : va_P D al_cl (ws ++ wf) H) (hD : va_D A (ws ++ wf)) (hS : va_S A s.heap H locs)
    (w4 : Jvm.Cond.code y bytes maxL (some .int) ∈ lw_tbl) (g4 : goodWord (Jvm.Cond.code y bytes maxL (some .int)) = true) (w5 : Jvm.Cond.initialized y.cls ∈ lw_tbl) (w6 : Jvm.Cond.methodLink own ic y ∈ lw_tbl) (w7 : Jvm.Cond.instanceMethod y ∈ lw_tbl) (w8 : Jvm.Cond.selects C y y ∈ lw_tbl) (hyd : y.cls ≠ "java/lang/invoke/MethodHandle" ∧ y.cls ≠ "java/lang/invoke/VarHandle" ∧ (parseMethodDescriptor y.desc).map (fun d => d.parameters.length) = some 0)
    (hmt : al_mt[mid]? = some (y, bytes, maxL, some .int, code)) (hr : ev_isI r = true) (hev : ev_met 0 al_dfl al_mt d mid [36893488147419103232] h = some (some r, h', mc, ms))
    (hRf : d + 1 ≤ R.frames) (hRl : 8 + (maxL + 11) + 64 * d ≤ R.locals) (hRc : cells + mc ≤ R.cells) (hRs : slots + ms ≤ R.slots) (hrest : (rest.map fun v => v.category).sum ≤ 8)
    (d4 : decode cc pc = .ok (.invokevirtual ic, 3))
    (kk : ∀ (ws' : va_W) (H' : Heap) (locs' : List Loc), va_P D al_cl (ws' ++ wf) H' → va_D A (ws' ++ wf) → va_S A s.heap H' locs' → W p l e R s m args below meth c H' locs' (cells + mc) (slots + ms) Q (F0 m (pc + 3) ls (.int (nI r) :: rest))) : W p l e R s m args below meth c H locs cells slots Q (F0 m pc ls (.ref q :: rest)) := by
  have hS0 : ev_S ka (q :: ads) [36893488147419103232] [.ref q] := ⟨Or.inr (Or.inr (Or.inl ⟨0, q, by decide, rfl, rfl, rfl⟩)), trivial⟩
  have hMet := al_cal l D ka d mid _ _ _ _ _ _ hev y bytes maxL (some .int) code hmt (q :: ads) tys ws [.ref q] H.size hS0 hM
  obtain ⟨q1, e1, k1, k2, k3⟩ := hM.2.2 0 _ hh
  cases k1
  have hrecv : ∃ cell : Cell, H[q]? = some cell ∧ cell.vm.isStatics = false ∧ s.vm.findClass C = some cell.cls := by
    rcases k3 with ⟨h0, fs, h1, h2, h3⟩ | ⟨h0, -⟩ | ⟨h0, -⟩ | ⟨h0, -⟩
    · rw [h1] at k2
      exact va_recv hK hP.ef_l (ci := ci) (q0 := 0) hcl k2
    · exact absurd hc (Nat.not_lt.mpr h0)
    · exact absurd hc (by rw [show ci = 1010 from h0]; decide)
    · exact absurd hc (by rw [show ci = 1020 from h0]; decide)
  refine ev_backF (va_runV (As := []) (rest := rest) (C := C) ⟨hx, hb, hml, hown, hts⟩ hMet ⟨callB_of 0 hts (al_goodIn w4 g4) rfl rfl rfl (hts _ w5) (hts _ w6) hyd ⟨hRf, hRl⟩, hts _ w7, hts _ w8⟩ ⟨ev_Pc.blind, hrecv, fun U hU hW => al_pre hts hCF hA hK hP.ef_l hD.ev_l hS U hU hW⟩ rfl rfl hsz rfl (lv_room hrest) d4 ⟨hRc, hRs⟩) rfl hP hD hS hA (fun l2 t2 ws' v H' locs' hv hM2 hK2 hP3 hD3 hS3 => ?_)
  cases v with
  | none => exact hv.elim
  | some v =>
    obtain ⟨rfl, -⟩ := ev_v.i hv hr
    exact kk ws' H' locs' hP3 hD3 hS3
end ALM
