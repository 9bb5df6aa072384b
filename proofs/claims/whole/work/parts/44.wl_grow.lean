/-! ===== 44: contracts grown; a method's contract out of its evaluation on all heaps of a kind ===== -/
theorem wl_hasRoom {s : State} {pl : Platform} {r r' : Jvm.Room} (h : s.hasRoom pl r' = true) (h1 : r.frames ≤ r'.frames) (h2 : r.cells ≤ r'.cells) (h3 : r.slots ≤ r'.slots) (h4 : r.locals ≤ r'.locals) : s.hasRoom pl r = true := by
  unfold State.hasRoom at h ⊢
  simp only [Bool.and_eq_true, decide_eq_true_eq] at h ⊢
  obtain ⟨⟨⟨⟨a1, a2, a3, a4, a5, a6⟩, a7⟩, a8⟩, a9⟩ := h
  exact ⟨⟨⟨⟨by omega, by omega, by omega, by omega, by omega, a6⟩, by omega⟩, by omega⟩, a9⟩
theorem wl_FrameEnd {st : State} {o : Outcome} {t : State} {L : List Loc} {mc ms mc' ms' : Nat} (h : FrameEnd st o t L mc ms) (h1 : mc ≤ mc') (h2 : ms ≤ ms') : FrameEnd st o t L mc' ms' := by
  obtain ⟨a, b, c1, c2, c3, c4, c5, c6⟩ := h
  exact ⟨a, b, c1, c2, Nat.le_trans c3 (Nat.add_le_add_left h1 _), c4, Nat.le_trans c5 h2, c6⟩
/-- a contract with more words, more room, a narrower start, a wider end -/
theorem wl_grow {l : Launch} {y : MethodName} {ws ws' : List Jvm.Cond} {rm rm' : Jvm.Room} {Pc Pc' : Array Value → State → Prop} {Qc Qc' : Array Value → State → Outcome → State → Prop} {mc ms mc' ms' : Nat} {free free' : Addr → Prop} (h : Met l y ws rm Pc Qc mc ms free) (hw : ∀ w ∈ ws, w ∈ ws') (hr : rm.frames ≤ rm'.frames ∧ rm.cells ≤ rm'.cells ∧ rm.slots ≤ rm'.slots ∧ rm.locals ≤ rm'.locals) (h1 : mc ≤ mc') (h2 : ms ≤ ms') (hf : ∀ q, free q → free' q) (hP : ∀ a s, Pc' a s → Pc a s) (hQ : ∀ a s o t, Pc' a s → Qc a s o t → Qc' a s o t) : Met l y ws' rm' Pc' Qc' mc' ms' free' := by
  intro p e ha hc hk s m args below hfr happ hp hk'
  obtain ⟨g1, g2, g3, g4, g5, g6, g7, g8⟩ := (Spec.appliesLoose_iff hfr).mp happ
  have happ3 : (headSpec ws rm).appliesLoose y e.platform s = true := (Spec.appliesLoose_iff hfr).mpr ⟨g1, g2, g3, g4, g5, g6, wl_hasRoom g7 hr.1 hr.2.1 hr.2.2.1 hr.2.2.2, atoms_intro fun w hw' => atoms_spec g8 w (hw w hw')⟩
  obtain ⟨n, o, a1, a2, a3, a4, L, a5, a6⟩ := h p e ha hc hk s m args below hfr happ3 (hP _ _ hp) trivial
  exact ⟨n, o, a1, a2, a3, hQ _ _ _ _ hp a4, L, wl_FrameEnd a5 h1 h2, fun q hq => hf _ (a6 q hq)⟩
/-- the evaluator's heaps of a kind, as worlds of the object at q -/
def wl_E (ka : ev_KA) (I : ev_H → Prop) : Nat → wl_Y → va_W → Prop := fun q t w => ∃ (l2 : List Nat) (h : ev_H), ev_M ka "TableTongue$Part" t (q :: l2) h w ∧ I h
/-- WHAT IS LEFT OF A METHOD'S CONTRACT: its evaluation on every heap of the kind -/
theorem wl_of_ev {l : Launch} {D : va_G} {ka : ev_KA} {mid d fr lo mc ms q maxL : Nat} {y : MethodName} {bytes : ByteArray} {rt : Option FieldType} {code : List (List ev_I)} (hmt : al_mt[mid]? = some (y, bytes, maxL, rt, code)) {as : List Nat} {vs : List Value} {V : Option Value} {I0 I1 : ev_H → Prop} (hS : ∀ ads : List Nat, ads[0]? = some q → ev_S ka ads as vs)
    (hev : ∀ h, I0 h → ∃ (ret : Option Nat) (h' : ev_H) (mc' ms' : Nat), ev_met 0 al_dfl al_mt d mid as h = some (ret, h', mc', ms') ∧ mc' ≤ mc ∧ ms' ≤ ms ∧ I1 h' ∧ ∀ (ads : List Nat) (v : Option Value), ev_rv ka ads ret v → v = V) (hd : d ≤ fr) (hlo : 64 * d ≤ lo) : wl_M l D ka y (lw_w y bytes maxL rt) fr lo (wl_E ka I0 q) vs (fun v t w => v = V ∧ wl_E ka I1 q t w) mc ms := by
  intro tys ws sz h0
  obtain ⟨l2, h, hM, hI⟩ := h0
  obtain ⟨ret, h', mc', ms', he, h1, h2, hI1, hV⟩ := hev h hI
  have hMet := al_cal l D ka d mid _ _ _ _ _ _ he y bytes maxL rt code hmt (q :: l2) tys ws vs sz (hS _ rfl) hM
  refine wl_grow hMet (fun w hw => ?_) ⟨hd, h1, h2, hlo⟩ h1 h2 (fun _ h => h) (fun a s hp => ?_) (fun a s o t hp hq => ?_)
  · rcases List.mem_cons.mp hw with rfl | hw
    · exact List.mem_cons_self
    · exact List.mem_cons_of_mem _ (List.mem_filter.mpr ⟨al_W0t w hw, al_good w hw⟩)
  · obtain ⟨e1, e2, e3, e4, e5, e6, e7, e8⟩ := hp
    exact ⟨e1, e2, e3, e4, e5, e6, e7⟩
  · obtain ⟨⟨l3, t3, w3, v, ho, hv, hM', hP', hK', hD'⟩, hF⟩ := hq
    exact ⟨⟨v, tys ++ t3, w3, ho, ⟨hV _ v hv, l2 ++ l3, h', hM', hI1⟩, hP', hK', hD'⟩, hF⟩
theorem wl_rv_int {ka : ev_KA} {r : Nat} (hr : ev_isI r = true) (ads : List Nat) (v : Option Value) (h : ev_rv ka ads (some r) v) : v = some (.int (nI r)) := by
  cases v with
  | none => exact h.elim
  | some v => obtain ⟨rfl, -⟩ := ev_v.i h hr; rfl
theorem wl_rv_none {ka : ev_KA} (ads : List Nat) (v : Option Value) (h : ev_rv ka ads none v) : v = none := by
  cases v with
  | none => rfl
  | some v => exact h.elim
theorem wl_E_Rc {ka : ev_KA} {I : ev_H → Prop} {ci N : Nat} (hci : ci < 1000) (hI : ∀ h, I h → ∃ a, h[0]? = some (ci, N, a)) : wl_Rc ci (wl_E ka I) := by
  intro q t w h
  obtain ⟨l2, h, hM, hI0⟩ := h
  obtain ⟨a, ha⟩ := hI h hI0
  obtain ⟨p0, e0, k1, k2, k3⟩ := hM.2.2 0 _ ha
  cases k1
  rcases k3 with ⟨-, fs, v1, v2, v3⟩ | ⟨y, -⟩ | ⟨y, -⟩ | ⟨y, -⟩
  · exact ⟨0, fs, by rw [k2, v1]⟩
  · exact absurd hci (Nat.not_lt.mpr y)
  · exact absurd hci (by rw [show ci = 1010 from y]; decide)
  · exact absurd hci (by rw [show ci = 1020 from y]; decide)
