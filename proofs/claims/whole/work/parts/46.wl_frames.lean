/-! ===== 46: contracts over a few cells, lifted to a whole world ===== -/
theorem wl_grow2 {l : Launch} {y : MethodName} {ws ws' : List Jvm.Cond} {rm rm' : Jvm.Room} {Pc Pc' : Array Value → State → Prop} {Qc Qc' : Array Value → State → Outcome → State → Prop} {mc ms mc' ms' : Nat} {free free' : Addr → Prop} (h : Met l y ws rm Pc Qc mc ms free) (hw : ∀ w ∈ ws, w ∈ ws') (hr : rm.frames ≤ rm'.frames ∧ rm.cells ≤ rm'.cells ∧ rm.slots ≤ rm'.slots ∧ rm.locals ≤ rm'.locals) (h1 : mc ≤ mc') (h2 : ms ≤ ms') (hf : ∀ q, free q → free' q) (hP : ∀ a s, Pc' a s → Pc a s) (hQ : ∀ a s o t, Pc' a s → s.WarmedH t.vm → Qc a s o t → Qc' a s o t) : Met l y ws' rm' Pc' Qc' mc' ms' free' := by
  intro p e ha hc hk s m args below hfr happ hp hk'
  obtain ⟨g1, g2, g3, g4, g5, g6, g7, g8⟩ := (Spec.appliesLoose_iff hfr).mp happ
  have happ3 : (headSpec ws rm).appliesLoose y e.platform s = true := (Spec.appliesLoose_iff hfr).mpr ⟨g1, g2, g3, g4, g5, g6, wl_hasRoom g7 hr.1 hr.2.1 hr.2.2.1 hr.2.2.2, atoms_intro fun w hw' => atoms_spec g8 w (hw w hw')⟩
  obtain ⟨n, o, a1, a2, a3, a4, L, a5, a6⟩ := h p e ha hc hk s m args below hfr happ3 (hP _ _ hp) trivial
  exact ⟨n, o, a1, a2, a3, hQ _ _ _ _ hp a5.2.1 a4, L, wl_FrameEnd a5 h1 h2, fun q hq => hf _ (a6 q hq)⟩
theorem wl_growX {l : Launch} {y : MethodName} {ws ws' : List Jvm.Cond} {rm rm' : Jvm.Room} {Pc Pc' : Array Value → State → Prop} {Qc Qc' : Array Value → State → Outcome → State → Prop} {XC XC' : String → State → State → Prop} {mc ms mc' ms' : Nat} {free free' : Addr → Prop} (h : vx_Met l y ws rm Pc Qc XC mc ms free) (hw : ∀ w ∈ ws, w ∈ ws') (hr : rm.frames ≤ rm'.frames ∧ rm.cells ≤ rm'.cells ∧ rm.slots ≤ rm'.slots ∧ rm.locals ≤ rm'.locals) (h1 : mc ≤ mc') (h2 : ms ≤ ms') (hf : ∀ q, free q → free' q) (hP : ∀ a s, Pc' a s → Pc a s) (hQ : ∀ a s o t, Pc' a s → s.WarmedH t.vm → Qc a s o t → Qc' a s o t) (hX : ∀ a s E t, Pc' a s → s.WarmedH t.vm → XC E s t → XC' E s t) : vx_Met l y ws' rm' Pc' Qc' XC' mc' ms' free' := by
  intro p e ha hc hk s m args below hfr happ hp hk'
  obtain ⟨g1, g2, g3, g4, g5, g6, g7, g8⟩ := (Spec.appliesLoose_iff hfr).mp happ
  have happ3 : (headSpec ws rm).appliesLoose y e.platform s = true := (Spec.appliesLoose_iff hfr).mpr ⟨g1, g2, g3, g4, g5, g6, wl_hasRoom g7 hr.1 hr.2.1 hr.2.2.1 hr.2.2.2, atoms_intro fun w hw' => atoms_spec g8 w (hw w hw')⟩
  obtain ⟨n, o, a1, a2, a3, a4⟩ := h p e ha hc hk s m args below hfr happ3 (hP _ _ hp) trivial
  refine ⟨n, o, a1, a2, a3, ?_⟩
  rcases a4 with ⟨a4, L, a5, a6⟩ | ⟨q, ho, E, ce, L, b1, b2, b3, b4, b5, b6, b7⟩
  · exact Or.inl ⟨hQ _ _ _ _ hp a5.2.1 a4, L, wl_FrameEnd a5 h1 h2, fun q hq => hf _ (a6 q hq)⟩
  · obtain ⟨c1, c2, c3, c4, c5, c6⟩ := b6
    exact Or.inr ⟨q, ho, E, ce, L, hX _ _ _ _ hp b5 b1, b2, b3, b4, b5, ⟨c1, c2, Nat.le_trans c3 (Nat.add_le_add_left h1 _), c4, Nat.le_trans c5 h2, c6⟩, fun z hz => hf _ (b7 z hz)⟩
theorem wl_K_l {D : va_G} {t1 tr : wl_Y} {U : State} (h : va_K D al_cl (t1 ++ tr) U) : va_K D al_cl t1 U := ⟨h.1, fun k q hk => h.2 k q (by rw [List.getElem?_append_left (List.getElem?_eq_some_iff.mp hk).1]; exact hk)⟩
theorem wl_K_r {D : va_G} {t1 tr : wl_Y} {U : State} (h : va_K D al_cl (t1 ++ tr) U) : va_K D al_cl tr U := ⟨h.1, fun k q hk => h.2 (t1.length + k) q (by rw [List.getElem?_append_right (Nat.le_add_right _ _), Nat.add_sub_cancel_left]; exact hk)⟩
theorem wl_K_lr {D : va_G} {t1 tr : wl_Y} {U : State} (h1 : va_K D al_cl t1 U) (h2 : va_K D al_cl tr U) : va_K D al_cl (t1 ++ tr) U := ⟨h1.1, fun k q hk => by
  by_cases hl : k < t1.length
  · rw [List.getElem?_append_left hl] at hk; exact h1.2 k q hk
  · rw [List.getElem?_append_right (Nat.not_lt.mp hl)] at hk; exact h2.2 _ q hk⟩
/-- behind a method that knows the cells w1 alone: the others are as before -/
theorem wl_world {D : va_G} {w1 wr w2 : va_W} {sz : Nat} {s t : State} (hsz : s.heap.size = sz) (hP : va_P D al_cl (w1 ++ wr) s.heap) (hD : va_D (fun _ => True) (w1 ++ wr)) (hF : va_F (va_A w1 sz) s t) (h2 : va_P D al_cl w2 t.heap) (hD2 : va_D (va_A w1 sz) w2) : va_P D al_cl (w2 ++ wr) t.heap ∧ va_D (va_A (w1 ++ wr) sz) (w2 ++ wr) ∧ va_F (va_A (w1 ++ wr) sz) s t := by
  have hup : ∀ q, va_A w1 sz q → va_A (w1 ++ wr) sz q := fun q h => by
    rcases h with ⟨k, e, h⟩ | h
    · exact Or.inl ⟨k, e, by rw [List.getElem?_append_left (List.getElem?_eq_some_iff.mp h).1]; exact h⟩
    · exact Or.inr h
  have hlt : ∀ (k : Nat) (q : Nat × va_E), wr[k]? = some q → q.1 < s.heap.size := fun k q hk => (hP.ev_r k q hk).lt
  have hno : ∀ (k : Nat) (q : Nat × va_E), wr[k]? = some q → ¬ va_A w1 sz q.1 := by
    intro k q hk h
    rcases h with ⟨j, e, hj⟩ | h
    · have h1 : (w1 ++ wr)[j]? = some (q.1, e) := by rw [List.getElem?_append_left (List.getElem?_eq_some_iff.mp hj).1]; exact hj
      have h2 : (w1 ++ wr)[w1.length + k]? = some q := by rw [List.getElem?_append_right (Nat.le_add_right _ _), Nat.add_sub_cancel_left]; exact hk
      have h3 := hD.1 _ _ _ _ h1 h2 rfl
      have h4 := (List.getElem?_eq_some_iff.mp hj).1
      omega
    · have := hlt k q hk
      omega
  refine ⟨va_P.app h2 (hP.ev_r.kept (fun k q hq => hF.2 q.1 (hlt k q hq) (hno k q hq))), va_D.app (hD2.weaken (fun k q _ h => hup q.1 h)) ⟨hD.ev_r.1, fun k q hk => Or.inl ⟨w1.length + k, q.2, by rw [List.getElem?_append_right (Nat.le_add_right _ _), Nat.add_sub_cancel_left]; exact hk⟩⟩ (fun i j x y hx hy hxy => hno j y hy (by rw [← hxy]; exact hD2.2 i x hx)), hF.1, fun q h1 h2 => hF.2 q h1 (fun h => h2 (hup q h))⟩
/-- a contract over a few cells that answers an int -/
theorem wl_fr_i {S : Type} {l : Launch} {D : va_G} {ka : ev_KA} {y : MethodName} {wd : List Jvm.Cond} {rm rm' : Jvm.Room} {t1 tr : wl_Y} {w1 wr : va_W} {sz mc ms mc' ms' : Nat} {vs : List Value} {post : Int32 → S → Prop} {w2 : S → va_W} {t2 : S → wl_Y}
    (h : Met l y wd rm (va_Pc vs (fun U => U.heap.size = sz ∧ va_P D al_cl w1 U.heap ∧ va_K D al_cl t1 U ∧ va_D (fun _ => True) w1)) (va_Qi post (fun u U => va_P D al_cl (w2 u) U.heap ∧ va_K D al_cl (t2 u) U ∧ va_D (va_A w1 sz) (w2 u)) (va_A w1 sz)) mc ms (va_A w1 sz)) (hr : rm.frames ≤ rm'.frames ∧ rm.cells ≤ rm'.cells ∧ rm.slots ≤ rm'.slots ∧ rm.locals ≤ rm'.locals) (h1 : mc ≤ mc') (h2 : ms ≤ ms') :
    Met l y wd rm' (wl_Pc D ka (t1 ++ tr) (w1 ++ wr) sz vs) (wl_Q D (fun v t w => ∃ r u, v = some (.int r) ∧ post r u ∧ t = t2 u ++ tr ∧ w = w2 u ++ wr) (w1 ++ wr) sz) mc' ms' (va_A (w1 ++ wr) sz) := by
  refine wl_grow2 h (fun w hw => hw) hr h1 h2 (fun q hq => ?_) (fun a s hp => ?_) (fun a s o t hp hW hq => ?_)
  · rcases hq with ⟨k, e, hq⟩ | hq
    · exact Or.inl ⟨k, e, by rw [List.getElem?_append_left (List.getElem?_eq_some_iff.mp hq).1]; exact hq⟩
    · exact Or.inr hq
  · obtain ⟨e1, e2, e3, e4, e5, -⟩ := hp
    exact ⟨e1, e2, e3.ef_l, wl_K_l e4, e5.ev_l⟩
  · obtain ⟨e1, e2, e3, e4, e5, -⟩ := hp
    obtain ⟨⟨r, u, ho, hpo, hP2, hK2, hD2⟩, hF⟩ := hq
    obtain ⟨k1, k2, k3⟩ := wl_world e2 e3 e5 hF hP2 hD2
    exact ⟨⟨_, _, _, ho, ⟨r, u, rfl, hpo, rfl, rfl⟩, k1, wl_K_lr hK2 (va_K.moved hW.alike (wl_K_r e4)), k2⟩, k3⟩
/-- likewise a long -/
theorem wl_fr_l {S : Type} {l : Launch} {D : va_G} {ka : ev_KA} {y : MethodName} {wd : List Jvm.Cond} {rm rm' : Jvm.Room} {t1 tr : wl_Y} {w1 wr : va_W} {sz mc ms mc' ms' : Nat} {vs : List Value} {post : Int64 → S → Prop} {w2 : S → va_W} {t2 : S → wl_Y}
    (h : Met l y wd rm (va_Pc vs (fun U => U.heap.size = sz ∧ va_P D al_cl w1 U.heap ∧ va_K D al_cl t1 U ∧ va_D (fun _ => True) w1)) (va_Ql post (fun u U => va_P D al_cl (w2 u) U.heap ∧ va_K D al_cl (t2 u) U ∧ va_D (va_A w1 sz) (w2 u)) (va_A w1 sz)) mc ms (va_A w1 sz)) (hr : rm.frames ≤ rm'.frames ∧ rm.cells ≤ rm'.cells ∧ rm.slots ≤ rm'.slots ∧ rm.locals ≤ rm'.locals) (h1 : mc ≤ mc') (h2 : ms ≤ ms') :
    Met l y wd rm' (wl_Pc D ka (t1 ++ tr) (w1 ++ wr) sz vs) (wl_Q D (fun v t w => ∃ r u, v = some (.long r) ∧ post r u ∧ t = t2 u ++ tr ∧ w = w2 u ++ wr) (w1 ++ wr) sz) mc' ms' (va_A (w1 ++ wr) sz) := by
  refine wl_grow2 h (fun w hw => hw) hr h1 h2 (fun q hq => ?_) (fun a s hp => ?_) (fun a s o t hp hW hq => ?_)
  · rcases hq with ⟨k, e, hq⟩ | hq
    · exact Or.inl ⟨k, e, by rw [List.getElem?_append_left (List.getElem?_eq_some_iff.mp hq).1]; exact hq⟩
    · exact Or.inr hq
  · obtain ⟨e1, e2, e3, e4, e5, -⟩ := hp
    exact ⟨e1, e2, e3.ef_l, wl_K_l e4, e5.ev_l⟩
  · obtain ⟨e1, e2, e3, e4, e5, -⟩ := hp
    obtain ⟨⟨r, u, ho, hpo, hP2, hK2, hD2⟩, hF⟩ := hq
    obtain ⟨k1, k2, k3⟩ := wl_world e2 e3 e5 hF hP2 hD2
    exact ⟨⟨_, _, _, ho, ⟨r, u, rfl, hpo, rfl, rfl⟩, k1, wl_K_lr hK2 (va_K.moved hW.alike (wl_K_r e4)), k2⟩, k3⟩
/-- likewise without an answer -/
theorem wl_fr_v {S : Type} {l : Launch} {D : va_G} {ka : ev_KA} {y : MethodName} {wd : List Jvm.Cond} {rm rm' : Jvm.Room} {t1 tr : wl_Y} {w1 wr : va_W} {sz mc ms mc' ms' : Nat} {vs : List Value} {post : S → Prop} {w2 : S → va_W} {t2 : S → wl_Y}
    (h : Met l y wd rm (va_Pc vs (fun U => U.heap.size = sz ∧ va_P D al_cl w1 U.heap ∧ va_K D al_cl t1 U ∧ va_D (fun _ => True) w1)) (va_Qv post (fun u U => va_P D al_cl (w2 u) U.heap ∧ va_K D al_cl (t2 u) U ∧ va_D (va_A w1 sz) (w2 u)) (va_A w1 sz)) mc ms (va_A w1 sz)) (hr : rm.frames ≤ rm'.frames ∧ rm.cells ≤ rm'.cells ∧ rm.slots ≤ rm'.slots ∧ rm.locals ≤ rm'.locals) (h1 : mc ≤ mc') (h2 : ms ≤ ms') :
    Met l y wd rm' (wl_Pc D ka (t1 ++ tr) (w1 ++ wr) sz vs) (wl_Q D (fun v t w => ∃ u, v = none ∧ post u ∧ t = t2 u ++ tr ∧ w = w2 u ++ wr) (w1 ++ wr) sz) mc' ms' (va_A (w1 ++ wr) sz) := by
  refine wl_grow2 h (fun w hw => hw) hr h1 h2 (fun q hq => ?_) (fun a s hp => ?_) (fun a s o t hp hW hq => ?_)
  · rcases hq with ⟨k, e, hq⟩ | hq
    · exact Or.inl ⟨k, e, by rw [List.getElem?_append_left (List.getElem?_eq_some_iff.mp hq).1]; exact hq⟩
    · exact Or.inr hq
  · obtain ⟨e1, e2, e3, e4, e5, -⟩ := hp
    exact ⟨e1, e2, e3.ef_l, wl_K_l e4, e5.ev_l⟩
  · obtain ⟨e1, e2, e3, e4, e5, -⟩ := hp
    obtain ⟨⟨u, ho, hpo, hP2, hK2, hD2⟩, hF⟩ := hq
    obtain ⟨k1, k2, k3⟩ := wl_world e2 e3 e5 hF hP2 hD2
    exact ⟨⟨_, _, _, ho, ⟨u, rfl, hpo, rfl, rfl⟩, k1, wl_K_lr hK2 (va_K.moved hW.alike (wl_K_r e4)), k2⟩, k3⟩
theorem wl_EE_in {A B : Nat → Prop} {U : State} (h : wl_EE A U) (hAB : ∀ q, B q → A q) : lw_E B U := ⟨h.1.1.narrow hAB, h.1.2.1.narrow hAB, h.1.2.2⟩
theorem wl_PX_of {D : va_G} {ka : ev_KA} {tys : wl_Y} {ws : va_W} {sz k q : Nat} {fs vs : List Value} {a : Array Value} {s : State} (hk : ws[k]? = some (q, .inr (3, fs))) (hp : wl_Pc D ka tys ws sz vs a s) : lw_PX D q fs sz vs a s := by
  obtain ⟨e1, e2, e3, e4, e5, e6, e7, e8⟩ := hp
  refine ⟨e1, e2, fun j x hj => ?_, ⟨e4.1, fun k q hk => by cases hk⟩, wl_EE_in e8 (fun q h => Or.inr h)⟩
  cases j with
  | zero => cases hj; exact e3 k _ hk
  | succ j => cases hj
/-- a method that reads the class's object alone, and answers an int -/
theorem wl_ro_i {l : Launch} {D : va_G} {ka : ev_KA} {y : MethodName} {wd : List Jvm.Cond} {fr lo : Nat} {rm : Jvm.Room} {R : Int32} {vs : List Value} {P0 : wl_Y → va_W → Prop} {q : Nat} (hr : rm.frames ≤ fr ∧ rm.cells ≤ 0 ∧ rm.slots ≤ 0 ∧ rm.locals ≤ lo)
    (h : ∀ (tys : wl_Y) (ws : va_W) (sz : Nat), P0 tys ws → ∃ (k : Nat) (fs : List Value), ws[k]? = some (q, .inr (3, fs)) ∧ Met l y wd rm (lw_PX D q fs sz vs) (va_Qi (S := Unit) (fun r _ => r = R) (fun _ _ => True) (fun q => sz ≤ q)) 0 0 (fun q => sz ≤ q)) : wl_M l D ka y wd fr lo P0 vs (fun v t w => v = some (.int R) ∧ P0 t w) 0 0 := by
  intro tys ws sz h0
  obtain ⟨k, fs, hk, hM⟩ := h tys ws sz h0
  refine wl_grow2 hM (fun w hw => hw) hr (Nat.le_refl _) (Nat.le_refl _) (fun q hq => Or.inr hq) (fun a s hp => wl_PX_of hk hp) (fun a s o t hp hW hq => ?_)
  obtain ⟨e1, e2, e3, e4, e5, -⟩ := hp
  obtain ⟨⟨r, u, ho, rfl, -⟩, hF⟩ := hq
  exact ⟨⟨_, tys, ws, ho, ⟨rfl, h0⟩, e3.kept (fun k q hq => hF.2 q.1 (e3 k q hq).lt (by have := (e3 k q hq).lt; omega)), va_K.moved hW.alike e4, e5.self⟩, hF.1, fun q h1 h2 => hF.2 q h1 (fun h => h2 (Or.inr h))⟩
theorem wl_ro_l {l : Launch} {D : va_G} {ka : ev_KA} {y : MethodName} {wd : List Jvm.Cond} {fr lo : Nat} {rm : Jvm.Room} {R : Int64} {vs : List Value} {P0 : wl_Y → va_W → Prop} {q : Nat} (hr : rm.frames ≤ fr ∧ rm.cells ≤ 0 ∧ rm.slots ≤ 0 ∧ rm.locals ≤ lo)
    (h : ∀ (tys : wl_Y) (ws : va_W) (sz : Nat), P0 tys ws → ∃ (k : Nat) (fs : List Value), ws[k]? = some (q, .inr (3, fs)) ∧ Met l y wd rm (lw_PX D q fs sz vs) (va_Ql (S := Unit) (fun r _ => r = R) (fun _ _ => True) (fun q => sz ≤ q)) 0 0 (fun q => sz ≤ q)) : wl_M l D ka y wd fr lo P0 vs (fun v t w => v = some (.long R) ∧ P0 t w) 0 0 := by
  intro tys ws sz h0
  obtain ⟨k, fs, hk, hM⟩ := h tys ws sz h0
  refine wl_grow2 hM (fun w hw => hw) hr (Nat.le_refl _) (Nat.le_refl _) (fun q hq => Or.inr hq) (fun a s hp => wl_PX_of hk hp) (fun a s o t hp hW hq => ?_)
  obtain ⟨e1, e2, e3, e4, e5, -⟩ := hp
  obtain ⟨⟨r, u, ho, rfl, -⟩, hF⟩ := hq
  exact ⟨⟨_, tys, ws, ho, ⟨rfl, h0⟩, e3.kept (fun k q hq => hF.2 q.1 (e3 k q hq).lt (by have := (e3 k q hq).lt; omega)), va_K.moved hW.alike e4, e5.self⟩, hF.1, fun q h1 h2 => hF.2 q h1 (fun h => h2 (Or.inr h))⟩
/-- a method that reads the class's object alone, and throws -/
theorem wl_ro_x {l : Launch} {D : va_G} {ka : ev_KA} {y : MethodName} {wd : List Jvm.Cond} {fr lo mc ms : Nat} {rm : Jvm.Room} {E : String} {vs : List Value} {P0 : wl_Y → va_W → Prop} {q : Nat} {Qc : Nat → Array Value → State → Outcome → State → Prop} (hr : rm.frames ≤ fr ∧ rm.cells ≤ mc ∧ rm.slots ≤ ms ∧ rm.locals ≤ lo) (h1 : 1 ≤ mc) (h2 : 6 ≤ ms) (hQ : ∀ sz a s o t, ¬ Qc sz a s o t)
    (h : ∀ (tys : wl_Y) (ws : va_W) (sz : Nat), P0 tys ws → ∃ (k : Nat) (fs : List Value), ws[k]? = some (q, .inr (3, fs)) ∧ vx_Met l y wd rm (lw_PX D q fs sz vs) (Qc sz) (lw_XX E sz) 1 6 (fun q => sz ≤ q)) : wl_TX l D ka y wd fr lo P0 vs E P0 mc ms := by
  intro tys ws sz h0
  obtain ⟨k, fs, hk, hM⟩ := h tys ws sz h0
  refine wl_growX hM (fun w hw => hw) hr h1 h2 (fun q hq => Or.inr hq) (fun a s hp => wl_PX_of hk hp) (fun a s o t _ _ hq => (hQ _ _ _ _ _ hq).elim) (fun a s F t hp hW hx => ?_)
  obtain ⟨e1, e2, e3, e4, e5, -⟩ := hp
  obtain ⟨u, -, hFE, hF⟩ := hx
  exact ⟨hFE, ⟨tys, ws, h0, e3.kept (fun k q hq => hF.2 q.1 (e3 k q hq).lt (by have := (e3 k q hq).lt; omega)), va_K.moved hW.alike e4, e5.self⟩, hF.1, fun q h1 h2 => hF.2 q h1 (fun h => h2 (Or.inr h))⟩
