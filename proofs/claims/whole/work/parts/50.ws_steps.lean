/-! ===== 50: the calls where nothing is compiled; fault in every state (by wip/whole2/law50.py) ===== -/
/-- what a call needs of a state: how many bytes, which, the fault's number, place and line, what is compiled -/
abbrev wl_St (C : Type) : Type := Nat × (Nat → Nat) × Int32 × Int32 × Int32 × Option C
def wl_fp (fc v : Int32) : Int32 := if fc = 0 then -1 else v
def wl_cb {C : Type} (c : Option C) : Int32 := match c with
  | none => 0
  | some _ => 1
/-- the class's object in a state -/
def wl_FX {C : Type} (τ : wl_St C) (q1 : Nat) (fs : List Value) : Prop := fs.length = 12 ∧ fs[0]? = some (.ref q1) ∧ fs[8]? = some (.int (nI τ.1)) ∧ fs[9]? = some (.int (wl_cb τ.2.2.2.2.2)) ∧ fs[10]? = some (.int (wl_fp τ.2.2.1 τ.2.2.2.1)) ∧ fs[11]? = some (.int (wl_fp τ.2.2.1 τ.2.2.2.2.1))
/-- the reference's object in a state -/
def wl_FM {C : Type} (τ : wl_St C) (th : Int32) (q1 : Nat) (fs : List Value) : Prop := fs.length = 160 ∧ fs[0]? = some (.int th) ∧ fs[1]? = some (.ref q1) ∧ fs[2]? = some (.int (nI τ.1)) ∧ fs[3]? = some (.int (wl_cb τ.2.2.2.2.2)) ∧ fs[4]? = some (.int τ.2.2.1) ∧ fs[5]? = some (.int τ.2.2.2.1) ∧ fs[6]? = some (.int τ.2.2.2.2.1)
def wl_KX {C : Type} (GX : ev_KA → Option C → List Value → wl_Y → va_W → Prop) (ka : ev_KA) (τ : wl_St C) (q : Nat) (t : wl_Y) (w : va_W) : Prop :=
  ∃ (q1 : Nat) (cB : ClassId) (f : Nat → Int32) (fs : List Value) (wr : va_W) (t0 : Nat), w = (q, .inr (3, fs)) :: (q1, .inl (cB, 6000, .inl f)) :: wr ∧ t[t0]? = some (cB, .byte) ∧ wl_FX τ q1 fs ∧ (∀ i, i < τ.1 → f i = nI (ev_b8 (τ.2.1 i)) ∧ τ.2.1 i < 256) ∧ τ.1 ≤ 6000 ∧ GX ka τ.2.2.2.2.2 fs t wr
def wl_KM {C : Type} (GM : ev_KA → Option C → List Value → wl_Y → va_W → Prop) (ka : ev_KA) (τ : wl_St C) (th : Int32) (q : Nat) (t : wl_Y) (w : va_W) : Prop :=
  ∃ (q1 : Nat) (cB : ClassId) (f : Nat → Int32) (fs : List Value) (wr : va_W) (t0 : Nat), w = (q, .inr (0, fs)) :: (q1, .inl (cB, 6000, .inl f)) :: wr ∧ t[t0]? = some (cB, .int) ∧ wl_FM τ th q1 fs ∧ (∀ i, i < τ.1 → f i = nI (τ.2.1 i) ∧ τ.2.1 i < 256) ∧ τ.1 ≤ 6000 ∧ GM ka τ.2.2.2.2.2 fs t wr
/-- what else the two objects hold: the fields that the calls of this part write don't matter to it, and where it is compiled it may as well not be -/
def wl_GXok {C : Type} (GX : ev_KA → Option C → List Value → wl_Y → va_W → Prop) : Prop := (∀ ka c fs t wr k v, 8 ≤ k → GX ka c fs t wr → GX ka c (fs.set k v) t wr) ∧ ∀ ka c fs t wr, GX ka c fs t wr → GX ka none fs t wr
def wl_GMok {C : Type} (GM : ev_KA → Option C → List Value → wl_Y → va_W → Prop) : Prop := (∀ ka c fs t wr k v, k ≤ 6 → GM ka c fs t wr → GM ka c (fs.set k v) t wr) ∧ ∀ ka c fs t wr, GM ka c fs t wr → GM ka none fs t wr
theorem wl_FM.set0 {C : Type} {τ : wl_St C} {th th' : Int32} {q1 : Nat} {fs : List Value} (h : wl_FM τ th q1 fs) : wl_FM τ th' q1 (fs.set 0 (.int th')) := by
  obtain ⟨h0, h1, h2, h3, h4, h5, h6, h7⟩ := h
  exact ⟨by rw [List.length_set]; exact h0, List.getElem?_set_self (by omega), by rw [List.getElem?_set_ne (by decide)]; exact h2, by rw [List.getElem?_set_ne (by decide)]; exact h3, by rw [List.getElem?_set_ne (by decide)]; exact h4, by rw [List.getElem?_set_ne (by decide)]; exact h5, by rw [List.getElem?_set_ne (by decide)]; exact h6, by rw [List.getElem?_set_ne (by decide)]; exact h7⟩
section WLS
variable {C : Type} {GX GM : ev_KA → Option C → List Value → wl_Y → va_W → Prop} {l : Launch} {D : va_G} {ka : ev_KA}
theorem wl_KX_Rc (τ : wl_St C) : wl_Rc 3 (wl_KX GX ka τ) := by
  intro q t w h
  obtain ⟨q1, cB, f, fs, wr, t0, rfl, -⟩ := h
  exact ⟨0, fs, rfl⟩
theorem wl_KM_Rc (τ : wl_St C) (th : Int32) : wl_Rc 0 (wl_KM GM ka τ th) := by
  intro q t w h
  obtain ⟨q1, cB, f, fs, wr, t0, rfl, -⟩ := h
  exact ⟨0, fs, rfl⟩
/-- a call of the reference that answers an int and sets what it threw alone -/
theorem ws_Ri (hG : wl_GMok GM) {τ : wl_St C} {R th : Int32} {m0 n : Nat} {y : MethodName} {b : ByteArray} {As : List Value} {rm : Jvm.Room} (hr : rm.frames ≤ 1900 ∧ rm.cells ≤ 0 ∧ rm.slots ≤ 0 ∧ rm.locals ≤ 80000)
    (h : ∀ (fs : List Value) (q1 sz : Nat) (tv : Int32), wl_FM τ tv q1 fs → Met l y (lw_w y b n (some .int)) rm (lw_PM D m0 fs sz (.ref m0 :: As)) (va_Qi (S := Unit) (fun r _ => r = R) (fun _ U => va_P D al_cl [(m0, .inr (0, (fs.set 0 (.int th))))] U.heap ∧ va_K D al_cl [] U ∧ va_D (va_A [(m0, .inr (0, fs))] sz) [(m0, .inr (0, (fs.set 0 (.int th))))]) (va_A [(m0, .inr (0, fs))] sz)) 0 0 (va_A [(m0, .inr (0, fs))] sz)) :
    wl_M l D ka y (lw_w y b n (some .int)) 1900 80000 (wl_KM0 (wl_KM GM ka) τ m0) (.ref m0 :: As) (fun v t w => v = some (.int R) ∧ wl_KM GM ka τ th m0 t w) 0 0 := by
  intro tys ws sz h0
  obtain ⟨th0, q1, cB, f, fs, wr, t0, rfl, ht, hF, hf, hn, hg⟩ := h0
  refine wl_grow (wl_fr_i (ka := ka) (t1 := []) (tr := tys) (w1 := [(m0, .inr (0, fs))]) (wr := (q1, .inl (cB, 6000, .inl f)) :: wr) (w2 := fun _ => [(m0, .inr (0, (fs.set 0 (.int th))))]) (t2 := fun _ => []) (h fs q1 sz th0 hF) hr (Nat.le_refl _) (Nat.le_refl _)) (fun w hw => hw) ⟨Nat.le_refl _, Nat.le_refl _, Nat.le_refl _, Nat.le_refl _⟩ (Nat.le_refl _) (Nat.le_refl _) (fun _ h => h) (fun a s hp => hp) (fun a s o t _ hq => ?_)
  obtain ⟨⟨v, t3, w3, ho, ⟨r, u, rfl, rfl, rfl, rfl⟩, hP, hK, hD⟩, hFr⟩ := hq
  exact ⟨⟨_, _, _, ho, ⟨rfl, q1, cB, f, _, wr, t0, rfl, ht, hF.set0, hf, hn, hG.1 _ _ _ _ _ 0 _ (by decide) hg⟩, hP, hK, hD⟩, hFr⟩
theorem ws_Rl (hG : wl_GMok GM) {τ : wl_St C} {R : Int64} {th : Int32} {m0 n : Nat} {y : MethodName} {b : ByteArray} {As : List Value} {rm : Jvm.Room} (hr : rm.frames ≤ 1900 ∧ rm.cells ≤ 0 ∧ rm.slots ≤ 0 ∧ rm.locals ≤ 80000)
    (h : ∀ (fs : List Value) (q1 sz : Nat) (tv : Int32), wl_FM τ tv q1 fs → Met l y (lw_w y b n (some .long)) rm (lw_PM D m0 fs sz (.ref m0 :: As)) (va_Ql (S := Unit) (fun r _ => r = R) (fun _ U => va_P D al_cl [(m0, .inr (0, (fs.set 0 (.int th))))] U.heap ∧ va_K D al_cl [] U ∧ va_D (va_A [(m0, .inr (0, fs))] sz) [(m0, .inr (0, (fs.set 0 (.int th))))]) (va_A [(m0, .inr (0, fs))] sz)) 0 0 (va_A [(m0, .inr (0, fs))] sz)) :
    wl_M l D ka y (lw_w y b n (some .long)) 1900 80000 (wl_KM0 (wl_KM GM ka) τ m0) (.ref m0 :: As) (fun v t w => v = some (.long R) ∧ wl_KM GM ka τ th m0 t w) 0 0 := by
  intro tys ws sz h0
  obtain ⟨th0, q1, cB, f, fs, wr, t0, rfl, ht, hF, hf, hn, hg⟩ := h0
  refine wl_grow (wl_fr_l (ka := ka) (t1 := []) (tr := tys) (w1 := [(m0, .inr (0, fs))]) (wr := (q1, .inl (cB, 6000, .inl f)) :: wr) (w2 := fun _ => [(m0, .inr (0, (fs.set 0 (.int th))))]) (t2 := fun _ => []) (h fs q1 sz th0 hF) hr (Nat.le_refl _) (Nat.le_refl _)) (fun w hw => hw) ⟨Nat.le_refl _, Nat.le_refl _, Nat.le_refl _, Nat.le_refl _⟩ (Nat.le_refl _) (Nat.le_refl _) (fun _ h => h) (fun a s hp => hp) (fun a s o t _ hq => ?_)
  obtain ⟨⟨v, t3, w3, ho, ⟨r, u, rfl, rfl, rfl, rfl⟩, hP, hK, hD⟩, hFr⟩ := hq
  exact ⟨⟨_, _, _, ho, ⟨rfl, q1, cB, f, _, wr, t0, rfl, ht, hF.set0, hf, hn, hG.1 _ _ _ _ _ 0 _ (by decide) hg⟩, hP, hK, hD⟩, hFr⟩
theorem ws_Rv (hG : wl_GMok GM) {τ : wl_St C} {th : Int32} {m0 n : Nat} {y : MethodName} {b : ByteArray} {As : List Value} {rm : Jvm.Room} (hr : rm.frames ≤ 1900 ∧ rm.cells ≤ 0 ∧ rm.slots ≤ 0 ∧ rm.locals ≤ 80000)
    (h : ∀ (fs : List Value) (q1 sz : Nat) (tv : Int32), wl_FM τ tv q1 fs → Met l y (lw_w y b n none) rm (lw_PM D m0 fs sz (.ref m0 :: As)) (va_Qv (S := Unit) (fun _ => True) (fun _ U => va_P D al_cl [(m0, .inr (0, (fs.set 0 (.int th))))] U.heap ∧ va_K D al_cl [] U ∧ va_D (va_A [(m0, .inr (0, fs))] sz) [(m0, .inr (0, (fs.set 0 (.int th))))]) (va_A [(m0, .inr (0, fs))] sz)) 0 0 (va_A [(m0, .inr (0, fs))] sz)) :
    wl_M l D ka y (lw_w y b n none) 1900 80000 (wl_KM0 (wl_KM GM ka) τ m0) (.ref m0 :: As) (fun v t w => v = none ∧ wl_KM GM ka τ th m0 t w) 0 0 := by
  intro tys ws sz h0
  obtain ⟨th0, q1, cB, f, fs, wr, t0, rfl, ht, hF, hf, hn, hg⟩ := h0
  refine wl_grow (wl_fr_v (ka := ka) (t1 := []) (tr := tys) (w1 := [(m0, .inr (0, fs))]) (wr := (q1, .inl (cB, 6000, .inl f)) :: wr) (w2 := fun _ => [(m0, .inr (0, (fs.set 0 (.int th))))]) (t2 := fun _ => []) (h fs q1 sz th0 hF) hr (Nat.le_refl _) (Nat.le_refl _)) (fun w hw => hw) ⟨Nat.le_refl _, Nat.le_refl _, Nat.le_refl _, Nat.le_refl _⟩ (Nat.le_refl _) (Nat.le_refl _) (fun _ h => h) (fun a s hp => hp) (fun a s o t _ hq => ?_)
  obtain ⟨⟨v, t3, w3, ho, ⟨u, rfl, -, rfl, rfl⟩, hP, hK, hD⟩, hFr⟩ := hq
  exact ⟨⟨_, _, _, ho, ⟨rfl, q1, cB, f, _, wr, t0, rfl, ht, hF.set0, hf, hn, hG.1 _ _ _ _ _ 0 _ (by decide) hg⟩, hP, hK, hD⟩, hFr⟩
/-- what the reference threw last -/
theorem ws_thrown {τ : wl_St C} {th : Int32} {m0 : Nat} : wl_M l D ka ly_X12_thrown (lw_w ly_X12_thrown prog_14_method_2_code 1 (some .int)) 1900 80000 (wl_KM GM ka τ th m0) [.ref m0] (fun v t w => v = some (.int th) ∧ wl_KM GM ka τ th m0 t w) 0 0 := by
  intro tys ws sz h0
  obtain ⟨q1, cB, f, fs, wr, t0, rfl, ht, hF, hf, hn, hg⟩ := h0
  have hM := m_X12_thrown l D m0 sz fs th hF.2.1
  refine wl_grow2 hM (fun w hw => hw) ⟨by show 1 ≤ 1900; decide, Nat.le_refl _, Nat.le_refl _, by show 32 ≤ 80000; decide⟩ (Nat.le_refl _) (Nat.le_refl _) (fun q hq => Or.inr hq) (fun a s hp => ?_) (fun a s o t hp hW hq => ?_)
  · obtain ⟨e1, e2, e3, e4, e5, -⟩ := hp
    exact ⟨e1, e2, va_P.ef_l (w1 := [(m0, .inr (0, fs))]) e3, ⟨e4.1, fun k q hk => by cases hk⟩, va_D.ev_l (w1 := [(m0, .inr (0, fs))]) e5⟩
  · obtain ⟨e1, e2, e3, e4, e5, -⟩ := hp
    obtain ⟨⟨r, u, ho, rfl, -⟩, hFr⟩ := hq
    exact ⟨⟨_, tys, _, ho, ⟨rfl, q1, cB, f, fs, wr, t0, rfl, ht, hF, hf, hn, hg⟩, e3.kept (fun k q hq => hFr.2 q.1 (e3 k q hq).lt (by have := (e3 k q hq).lt; omega)), va_K.moved hW.alike e4, e5.self⟩, hFr.1, fun q h1 h2 => hFr.2 q h1 (fun h => h2 (Or.inr h))⟩
set_option maxHeartbeats 1000000 in
theorem ws_4 (hGX : wl_GXok GX) (hGM : wl_GMok GM) {x0 m0 : Nat} (τ : wl_St C) (hst : l.stackTraces = false) (hc : τ.2.2.2.2.2 = none) (y1 y2 y3 : Int32) : ∃ (τ' : wl_St C) (mc ms : Nat), (τ'.2.2.2.2.2 = none ∨ τ' = τ) ∧ mc ≤ 1 ∧ ms ≤ 6 ∧ wl_T4 (wl_St C) l D ka x0 m0 (wl_KX GX ka) (wl_KM GM ka) τ τ' y1 y2 y3 mc ms := by
  have hX := ww_function_bad (l := l) (D := D) (ka := ka) (x0 := x0) (KX := wl_KX GX ka τ) (K1 := wl_KX GX ka τ) (mc := 1) (ms := 6) (wl_KX_Rc τ) y1 y2 (wl_ro_x (rm := { frames := 8, cells := 1, slots := 6, locals := 150 }) (Qc := fun sz => va_Qi (S := Unit) (fun _ _ => False) (fun _ _ => True) (fun q => sz ≤ q)) ⟨Nat.le_of_ble_eq_true rfl, Nat.le_refl _, Nat.le_refl _, Nat.le_of_ble_eq_true rfl⟩ (Nat.le_refl _) (Nat.le_refl _) (fun sz a s o t hq => by obtain ⟨⟨r, u, -, hf, -⟩, -⟩ := hq; exact hf) (fun tys ws sz h => by
      obtain ⟨q1, cB, f, fs, wr, t0, rfl, ht, ⟨g0, g1, g2, g3, g4, g5⟩, -⟩ := h
      rw [hc] at g3
      exact ⟨0, fs, rfl, ut_X11_function l hst D x0 sz fs g2 g3 g4 g5 y1 y2⟩))
  have hM := ws_Ri (l := l) (D := D) (ka := ka) (GM := GM) (τ := τ) (th := 1) (m0 := m0) hGM (rm := { frames := 2, cells := 0, slots := 0, locals := 80 }) ⟨Nat.le_of_ble_eq_true rfl, Nat.le_refl _, Nat.le_refl _, Nat.le_of_ble_eq_true rfl⟩ (fun fs q1 sz tv hF => by
      obtain ⟨g0, g1, g2, g3, g4, g5, g6, g7⟩ := hF
      rw [hc] at g4
      exact um_X12_function l D m0 sz fs g0 g1 g3 g4 g5 g6 g7 y1 y2)
  exact ⟨τ, 1, 6, Or.inr rfl, Nat.le_refl _, Nat.le_refl _, 1, 0, _, 1, 6, 0, 0, rfl, rfl, fun z => absurd z (by decide), hX, hM⟩
set_option maxHeartbeats 1000000 in
theorem ws_5 (hGX : wl_GXok GX) (hGM : wl_GMok GM) {x0 m0 : Nat} (τ : wl_St C) (hst : l.stackTraces = false) (hc : τ.2.2.2.2.2 = none) (y1 y2 y3 : Int32) : ∃ (τ' : wl_St C) (mc ms : Nat), (τ'.2.2.2.2.2 = none ∨ τ' = τ) ∧ mc ≤ 1 ∧ ms ≤ 6 ∧ wl_T5 (wl_St C) l D ka x0 m0 (wl_KX GX ka) (wl_KM GM ka) τ τ' y1 y2 y3 mc ms := by
  have hX := ww_load_bad (l := l) (D := D) (ka := ka) (x0 := x0) (KX := wl_KX GX ka τ) (K1 := wl_KX GX ka τ) (mc := 1) (ms := 6) (wl_KX_Rc τ) (wl_ro_x (rm := { frames := 8, cells := 1, slots := 6, locals := 150 }) (Qc := fun sz => va_Qv (S := Unit) (fun _ => False) (fun _ _ => True) (fun q => sz ≤ q)) ⟨Nat.le_of_ble_eq_true rfl, Nat.le_refl _, Nat.le_refl _, Nat.le_of_ble_eq_true rfl⟩ (Nat.le_refl _) (Nat.le_refl _) (fun sz a s o t hq => by obtain ⟨⟨u, -, hf, -⟩, -⟩ := hq; exact hf) (fun tys ws sz h => by
      obtain ⟨q1, cB, f, fs, wr, t0, rfl, ht, ⟨g0, g1, g2, g3, g4, g5⟩, -⟩ := h
      rw [hc] at g3
      exact ⟨0, fs, rfl, ut_X11_load l hst D x0 sz fs g2 g3 g4 g5 ⟩))
  have hM := ws_Rv (l := l) (D := D) (ka := ka) (GM := GM) (τ := τ) (th := 1) (m0 := m0) hGM (rm := { frames := 2, cells := 0, slots := 0, locals := 80 }) ⟨Nat.le_of_ble_eq_true rfl, Nat.le_refl _, Nat.le_refl _, Nat.le_of_ble_eq_true rfl⟩ (fun fs q1 sz tv hF => by
      obtain ⟨g0, g1, g2, g3, g4, g5, g6, g7⟩ := hF
      rw [hc] at g4
      exact um_X12_load l D m0 sz fs g0 g1 g3 g4 g5 g6 g7 )
  exact ⟨τ, 1, 6, Or.inr rfl, Nat.le_refl _, Nat.le_refl _, 1, 1, 6, 0, 0, rfl, rfl, hX, hM⟩
set_option maxHeartbeats 1000000 in
theorem ws_6 (hGX : wl_GXok GX) (hGM : wl_GMok GM) {x0 m0 : Nat} (τ : wl_St C) (hst : l.stackTraces = false) (hc : τ.2.2.2.2.2 = none) (y1 y2 y3 : Int32) : ∃ (τ' : wl_St C) (mc ms : Nat), (τ'.2.2.2.2.2 = none ∨ τ' = τ) ∧ mc ≤ 1 ∧ ms ≤ 6 ∧ wl_T6 (wl_St C) l D ka x0 m0 (wl_KX GX ka) (wl_KM GM ka) τ τ' y1 y2 y3 mc ms := by
  have hX := ww_run_bad (l := l) (D := D) (ka := ka) (x0 := x0) (KX := wl_KX GX ka τ) (K1 := wl_KX GX ka τ) (mc := 1) (ms := 6) (wl_KX_Rc τ) y1 (wl_ro_x (rm := { frames := 8, cells := 1, slots := 6, locals := 150 }) (Qc := fun sz => va_Qi (S := Unit) (fun _ _ => False) (fun _ _ => True) (fun q => sz ≤ q)) ⟨Nat.le_of_ble_eq_true rfl, Nat.le_refl _, Nat.le_refl _, Nat.le_of_ble_eq_true rfl⟩ (Nat.le_refl _) (Nat.le_refl _) (fun sz a s o t hq => by obtain ⟨⟨r, u, -, hf, -⟩, -⟩ := hq; exact hf) (fun tys ws sz h => by
      obtain ⟨q1, cB, f, fs, wr, t0, rfl, ht, ⟨g0, g1, g2, g3, g4, g5⟩, -⟩ := h
      rw [hc] at g3
      exact ⟨0, fs, rfl, ut_X11_run l hst D x0 sz fs g2 g3 g4 g5 y1⟩))
  have hM := ws_Ri (l := l) (D := D) (ka := ka) (GM := GM) (τ := τ) (th := 1) (m0 := m0) hGM (rm := { frames := 2, cells := 0, slots := 0, locals := 80 }) ⟨Nat.le_of_ble_eq_true rfl, Nat.le_refl _, Nat.le_refl _, Nat.le_of_ble_eq_true rfl⟩ (fun fs q1 sz tv hF => by
      obtain ⟨g0, g1, g2, g3, g4, g5, g6, g7⟩ := hF
      rw [hc] at g4
      exact um_X12_run l D m0 sz fs g0 g1 g3 g4 g5 g6 g7 y1)
  exact ⟨τ, 1, 6, Or.inr rfl, Nat.le_refl _, Nat.le_refl _, 1, 0, _, 1, 6, 0, 0, rfl, rfl, fun z => absurd z (by decide), hX, hM⟩
set_option maxHeartbeats 1000000 in
theorem ws_9 (hGX : wl_GXok GX) (hGM : wl_GMok GM) {x0 m0 : Nat} (τ : wl_St C) (hst : l.stackTraces = false) (hc : τ.2.2.2.2.2 = none) (y1 y2 y3 : Int32) : ∃ (τ' : wl_St C) (mc ms : Nat), (τ'.2.2.2.2.2 = none ∨ τ' = τ) ∧ mc ≤ 1 ∧ ms ≤ 6 ∧ wl_T9 (wl_St C) l D ka x0 m0 (wl_KX GX ka) (wl_KM GM ka) τ τ' y1 y2 y3 mc ms := by
  have hX := ww_result_bad (l := l) (D := D) (ka := ka) (x0 := x0) (KX := wl_KX GX ka τ) (K1 := wl_KX GX ka τ) (mc := 1) (ms := 6) (wl_KX_Rc τ) y1 y2 (wl_ro_x (rm := { frames := 8, cells := 1, slots := 6, locals := 150 }) (Qc := fun sz => va_Ql (S := Unit) (fun _ _ => False) (fun _ _ => True) (fun q => sz ≤ q)) ⟨Nat.le_of_ble_eq_true rfl, Nat.le_refl _, Nat.le_refl _, Nat.le_of_ble_eq_true rfl⟩ (Nat.le_refl _) (Nat.le_refl _) (fun sz a s o t hq => by obtain ⟨⟨r, u, -, hf, -⟩, -⟩ := hq; exact hf) (fun tys ws sz h => by
      obtain ⟨q1, cB, f, fs, wr, t0, rfl, ht, ⟨g0, g1, g2, g3, g4, g5⟩, -⟩ := h
      rw [hc] at g3
      exact ⟨0, fs, rfl, ut_X11_result l hst D x0 sz fs g2 g3 g4 g5 y1 y2⟩))
  have hM := ws_Rl (l := l) (D := D) (ka := ka) (GM := GM) (τ := τ) (th := 1) (m0 := m0) hGM (rm := { frames := 2, cells := 0, slots := 0, locals := 80 }) ⟨Nat.le_of_ble_eq_true rfl, Nat.le_refl _, Nat.le_refl _, Nat.le_of_ble_eq_true rfl⟩ (fun fs q1 sz tv hF => by
      obtain ⟨g0, g1, g2, g3, g4, g5, g6, g7⟩ := hF
      rw [hc] at g4
      exact um_X12_result l D m0 sz fs g0 g1 g3 g4 g5 g6 g7 y1 y2)
  exact ⟨τ, 1, 6, Or.inr rfl, Nat.le_refl _, Nat.le_refl _, 1, 0, _, 1, 6, 0, 0, rfl, rfl, fun z => absurd z (by decide), hX, hM⟩
set_option maxHeartbeats 1000000 in
theorem ws_10 (hGX : wl_GXok GX) (hGM : wl_GMok GM) {x0 m0 : Nat} (τ : wl_St C) (hst : l.stackTraces = false) (hc : τ.2.2.2.2.2 = none) (y1 y2 y3 : Int32) : ∃ (τ' : wl_St C) (mc ms : Nat), (τ'.2.2.2.2.2 = none ∨ τ' = τ) ∧ mc ≤ 1 ∧ ms ≤ 6 ∧ wl_T10 (wl_St C) l D ka x0 m0 (wl_KX GX ka) (wl_KM GM ka) τ τ' y1 y2 y3 mc ms := by
  have hX := ww_resultByte_bad (l := l) (D := D) (ka := ka) (x0 := x0) (KX := wl_KX GX ka τ) (K1 := wl_KX GX ka τ) (mc := 1) (ms := 6) (wl_KX_Rc τ) y1 y2 (wl_ro_x (rm := { frames := 8, cells := 1, slots := 6, locals := 150 }) (Qc := fun sz => va_Qi (S := Unit) (fun _ _ => False) (fun _ _ => True) (fun q => sz ≤ q)) ⟨Nat.le_of_ble_eq_true rfl, Nat.le_refl _, Nat.le_refl _, Nat.le_of_ble_eq_true rfl⟩ (Nat.le_refl _) (Nat.le_refl _) (fun sz a s o t hq => by obtain ⟨⟨r, u, -, hf, -⟩, -⟩ := hq; exact hf) (fun tys ws sz h => by
      obtain ⟨q1, cB, f, fs, wr, t0, rfl, ht, ⟨g0, g1, g2, g3, g4, g5⟩, -⟩ := h
      rw [hc] at g3
      exact ⟨0, fs, rfl, ut_X11_resultByte l hst D x0 sz fs g2 g3 g4 g5 y1 y2⟩))
  have hM := ws_Ri (l := l) (D := D) (ka := ka) (GM := GM) (τ := τ) (th := 1) (m0 := m0) hGM (rm := { frames := 2, cells := 0, slots := 0, locals := 80 }) ⟨Nat.le_of_ble_eq_true rfl, Nat.le_refl _, Nat.le_refl _, Nat.le_of_ble_eq_true rfl⟩ (fun fs q1 sz tv hF => by
      obtain ⟨g0, g1, g2, g3, g4, g5, g6, g7⟩ := hF
      rw [hc] at g4
      exact um_X12_resultByte l D m0 sz fs g0 g1 g3 g4 g5 g6 g7 y1 y2)
  exact ⟨τ, 1, 6, Or.inr rfl, Nat.le_refl _, Nat.le_refl _, 1, 0, _, 1, 6, 0, 0, rfl, rfl, fun z => absurd z (by decide), hX, hM⟩
set_option maxHeartbeats 1000000 in
theorem ws_12 (hGX : wl_GXok GX) (hGM : wl_GMok GM) {x0 m0 : Nat} (τ : wl_St C) (hst : l.stackTraces = false) (hc : τ.2.2.2.2.2 = none) (y1 y2 y3 : Int32) : ∃ (τ' : wl_St C) (mc ms : Nat), (τ'.2.2.2.2.2 = none ∨ τ' = τ) ∧ mc ≤ 1 ∧ ms ≤ 6 ∧ wl_T12 (wl_St C) l D ka x0 m0 (wl_KX GX ka) (wl_KM GM ka) τ τ' y1 y2 y3 mc ms := by
  have hX := ww_output_bad (l := l) (D := D) (ka := ka) (x0 := x0) (KX := wl_KX GX ka τ) (K1 := wl_KX GX ka τ) (mc := 1) (ms := 6) (wl_KX_Rc τ) y1 (wl_ro_x (rm := { frames := 8, cells := 1, slots := 6, locals := 150 }) (Qc := fun sz => va_Qi (S := Unit) (fun _ _ => False) (fun _ _ => True) (fun q => sz ≤ q)) ⟨Nat.le_of_ble_eq_true rfl, Nat.le_refl _, Nat.le_refl _, Nat.le_of_ble_eq_true rfl⟩ (Nat.le_refl _) (Nat.le_refl _) (fun sz a s o t hq => by obtain ⟨⟨r, u, -, hf, -⟩, -⟩ := hq; exact hf) (fun tys ws sz h => by
      obtain ⟨q1, cB, f, fs, wr, t0, rfl, ht, ⟨g0, g1, g2, g3, g4, g5⟩, -⟩ := h
      rw [hc] at g3
      exact ⟨0, fs, rfl, ut_X11_output l hst D x0 sz fs g2 g3 g4 g5 y1⟩))
  have hM := ws_Ri (l := l) (D := D) (ka := ka) (GM := GM) (τ := τ) (th := 1) (m0 := m0) hGM (rm := { frames := 2, cells := 0, slots := 0, locals := 80 }) ⟨Nat.le_of_ble_eq_true rfl, Nat.le_refl _, Nat.le_refl _, Nat.le_of_ble_eq_true rfl⟩ (fun fs q1 sz tv hF => by
      obtain ⟨g0, g1, g2, g3, g4, g5, g6, g7⟩ := hF
      rw [hc] at g4
      exact um_X12_output l D m0 sz fs g0 g1 g3 g4 g5 g6 g7 y1)
  exact ⟨τ, 1, 6, Or.inr rfl, Nat.le_refl _, Nat.le_refl _, 1, 0, _, 1, 6, 0, 0, rfl, rfl, fun z => absurd z (by decide), hX, hM⟩
set_option maxHeartbeats 1000000 in
theorem ws_14 (hGX : wl_GXok GX) (hGM : wl_GMok GM) {x0 m0 : Nat} (τ : wl_St C) (hst : l.stackTraces = false) (hc : τ.2.2.2.2.2 = none) (y1 y2 y3 : Int32) : ∃ (τ' : wl_St C) (mc ms : Nat), (τ'.2.2.2.2.2 = none ∨ τ' = τ) ∧ mc ≤ 1 ∧ ms ≤ 6 ∧ wl_T14 (wl_St C) l D ka x0 m0 (wl_KX GX ka) (wl_KM GM ka) τ τ' y1 y2 y3 mc ms := by
  have hX := ww_object_bad (l := l) (D := D) (ka := ka) (x0 := x0) (KX := wl_KX GX ka τ) (K1 := wl_KX GX ka τ) (mc := 1) (ms := 6) (wl_KX_Rc τ) y1 y2 (wl_ro_x (rm := { frames := 8, cells := 1, slots := 6, locals := 150 }) (Qc := fun sz => va_Qi (S := Unit) (fun _ _ => False) (fun _ _ => True) (fun q => sz ≤ q)) ⟨Nat.le_of_ble_eq_true rfl, Nat.le_refl _, Nat.le_refl _, Nat.le_of_ble_eq_true rfl⟩ (Nat.le_refl _) (Nat.le_refl _) (fun sz a s o t hq => by obtain ⟨⟨r, u, -, hf, -⟩, -⟩ := hq; exact hf) (fun tys ws sz h => by
      obtain ⟨q1, cB, f, fs, wr, t0, rfl, ht, ⟨g0, g1, g2, g3, g4, g5⟩, -⟩ := h
      rw [hc] at g3
      exact ⟨0, fs, rfl, ut_X11_object l hst D x0 sz fs g2 g3 g4 g5 y1 y2⟩))
  have hM := ws_Ri (l := l) (D := D) (ka := ka) (GM := GM) (τ := τ) (th := 1) (m0 := m0) hGM (rm := { frames := 2, cells := 0, slots := 0, locals := 80 }) ⟨Nat.le_of_ble_eq_true rfl, Nat.le_refl _, Nat.le_refl _, Nat.le_of_ble_eq_true rfl⟩ (fun fs q1 sz tv hF => by
      obtain ⟨g0, g1, g2, g3, g4, g5, g6, g7⟩ := hF
      rw [hc] at g4
      exact um_X12_object_ l D m0 sz fs g0 g1 g3 g4 g5 g6 g7 y1 y2)
  exact ⟨τ, 1, 6, Or.inr rfl, Nat.le_refl _, Nat.le_refl _, 1, 0, _, 1, 6, 0, 0, rfl, rfl, fun z => absurd z (by decide), hX, hM⟩
set_option maxHeartbeats 1000000 in
theorem ws_15 (hGX : wl_GXok GX) (hGM : wl_GMok GM) {x0 m0 : Nat} (τ : wl_St C) (hst : l.stackTraces = false) (hc : τ.2.2.2.2.2 = none) (y1 y2 y3 : Int32) : ∃ (τ' : wl_St C) (mc ms : Nat), (τ'.2.2.2.2.2 = none ∨ τ' = τ) ∧ mc ≤ 1 ∧ ms ≤ 6 ∧ wl_T15 (wl_St C) l D ka x0 m0 (wl_KX GX ka) (wl_KM GM ka) τ τ' y1 y2 y3 mc ms := by
  have hX := ww_place_bad (l := l) (D := D) (ka := ka) (x0 := x0) (KX := wl_KX GX ka τ) (K1 := wl_KX GX ka τ) (mc := 1) (ms := 6) (wl_KX_Rc τ) y1 y2 y3 (wl_ro_x (rm := { frames := 8, cells := 1, slots := 6, locals := 150 }) (Qc := fun sz => va_Ql (S := Unit) (fun _ _ => False) (fun _ _ => True) (fun q => sz ≤ q)) ⟨Nat.le_of_ble_eq_true rfl, Nat.le_refl _, Nat.le_refl _, Nat.le_of_ble_eq_true rfl⟩ (Nat.le_refl _) (Nat.le_refl _) (fun sz a s o t hq => by obtain ⟨⟨r, u, -, hf, -⟩, -⟩ := hq; exact hf) (fun tys ws sz h => by
      obtain ⟨q1, cB, f, fs, wr, t0, rfl, ht, ⟨g0, g1, g2, g3, g4, g5⟩, -⟩ := h
      rw [hc] at g3
      exact ⟨0, fs, rfl, ut_X11_place l hst D x0 sz fs g2 g3 g4 g5 y1 y2 y3⟩))
  have hM := ws_Rl (l := l) (D := D) (ka := ka) (GM := GM) (τ := τ) (th := 1) (m0 := m0) hGM (rm := { frames := 2, cells := 0, slots := 0, locals := 80 }) ⟨Nat.le_of_ble_eq_true rfl, Nat.le_refl _, Nat.le_refl _, Nat.le_of_ble_eq_true rfl⟩ (fun fs q1 sz tv hF => by
      obtain ⟨g0, g1, g2, g3, g4, g5, g6, g7⟩ := hF
      rw [hc] at g4
      exact um_X12_place l D m0 sz fs g0 g1 g3 g4 g5 g6 g7 y1 y2 y3)
  exact ⟨τ, 1, 6, Or.inr rfl, Nat.le_refl _, Nat.le_refl _, 1, 0, _, 1, 6, 0, 0, rfl, rfl, fun z => absurd z (by decide), hX, hM⟩
set_option maxHeartbeats 1000000 in
theorem ws_7 (hGX : wl_GXok GX) (hGM : wl_GMok GM) {x0 m0 : Nat} (τ : wl_St C) (hc : τ.2.2.2.2.2 = none) (y1 y2 y3 : Int32) : ∃ (τ' : wl_St C) (mc ms : Nat), (τ'.2.2.2.2.2 = none ∨ τ' = τ) ∧ mc ≤ 1 ∧ ms ≤ 6 ∧ wl_T7 (wl_St C) l D ka x0 m0 (wl_KX GX ka) (wl_KM GM ka) τ τ' y1 y2 y3 mc ms := by
  have hX := wl_ro_l (l := l) (D := D) (ka := ka) (fr := 1900) (lo := 80000) (R := 0) (P0 := wl_KX GX ka τ x0) (q := x0) (rm := { frames := 2, cells := 0, slots := 0, locals := 40 }) ⟨Nat.le_of_ble_eq_true rfl, Nat.le_refl _, Nat.le_refl _, Nat.le_of_ble_eq_true rfl⟩ (fun tys ws sz h => by
      obtain ⟨q1, cB, f, fs, wr, t0, rfl, ht, ⟨g0, g1, g2, g3, g4, g5⟩, -⟩ := h
      rw [hc] at g3
      exact ⟨0, fs, rfl, ur_X11_steps l D x0 sz fs g2 g3 g4 g5⟩)
  have hM := ws_Rl (l := l) (D := D) (ka := ka) (GM := GM) (τ := τ) (th := 0) (m0 := m0) hGM (rm := { frames := 2, cells := 0, slots := 0, locals := 80 }) ⟨Nat.le_of_ble_eq_true rfl, Nat.le_refl _, Nat.le_refl _, Nat.le_of_ble_eq_true rfl⟩ (fun fs q1 sz tv hF => by
      obtain ⟨g0, g1, g2, g3, g4, g5, g6, g7⟩ := hF
      rw [hc] at g4
      exact um_X12_steps l D m0 sz fs g0 g1 g3 g4 g5 g6 g7)
  refine ⟨τ, 0, 0, Or.inr rfl, by decide, by decide, 0, 0, 0, 0, 0, rfl, rfl, hX, fun tys ws sz h0 => wl_grow (hM tys ws sz h0) (fun w hw => hw) ⟨Nat.le_refl _, Nat.le_refl _, Nat.le_refl _, Nat.le_refl _⟩ (Nat.le_refl _) (Nat.le_refl _) (fun _ h => h) (fun a s hp => hp) (fun a s o t _ hq => ?_)⟩
  obtain ⟨⟨v, t3, w3, ho, ⟨hv, hK1⟩, hP, hK, hD⟩, hFr⟩ := hq
  exact ⟨⟨v, t3, w3, ho, ⟨hv, 0, hK1⟩, hP, hK, hD⟩, hFr⟩
set_option maxHeartbeats 1000000 in
theorem ws_8 (hGX : wl_GXok GX) (hGM : wl_GMok GM) {x0 m0 : Nat} (τ : wl_St C) (hc : τ.2.2.2.2.2 = none) (y1 y2 y3 : Int32) : ∃ (τ' : wl_St C) (mc ms : Nat), (τ'.2.2.2.2.2 = none ∨ τ' = τ) ∧ mc ≤ 1 ∧ ms ≤ 6 ∧ wl_T8 (wl_St C) l D ka x0 m0 (wl_KX GX ka) (wl_KM GM ka) τ τ' y1 y2 y3 mc ms := by
  have hX := wl_ro_i (l := l) (D := D) (ka := ka) (fr := 1900) (lo := 80000) (R := 0) (P0 := wl_KX GX ka τ x0) (q := x0) (rm := { frames := 2, cells := 0, slots := 0, locals := 40 }) ⟨Nat.le_of_ble_eq_true rfl, Nat.le_refl _, Nat.le_refl _, Nat.le_of_ble_eq_true rfl⟩ (fun tys ws sz h => by
      obtain ⟨q1, cB, f, fs, wr, t0, rfl, ht, ⟨g0, g1, g2, g3, g4, g5⟩, -⟩ := h
      rw [hc] at g3
      exact ⟨0, fs, rfl, ur_X11_results l D x0 sz fs g2 g3 g4 g5⟩)
  have hM := ws_Ri (l := l) (D := D) (ka := ka) (GM := GM) (τ := τ) (th := 0) (m0 := m0) hGM (rm := { frames := 2, cells := 0, slots := 0, locals := 80 }) ⟨Nat.le_of_ble_eq_true rfl, Nat.le_refl _, Nat.le_refl _, Nat.le_of_ble_eq_true rfl⟩ (fun fs q1 sz tv hF => by
      obtain ⟨g0, g1, g2, g3, g4, g5, g6, g7⟩ := hF
      rw [hc] at g4
      exact um_X12_results l D m0 sz fs g0 g1 g3 g4 g5 g6 g7)
  refine ⟨τ, 0, 0, Or.inr rfl, by decide, by decide, 0, 0, 0, 0, 0, rfl, rfl, hX, fun tys ws sz h0 => wl_grow (hM tys ws sz h0) (fun w hw => hw) ⟨Nat.le_refl _, Nat.le_refl _, Nat.le_refl _, Nat.le_refl _⟩ (Nat.le_refl _) (Nat.le_refl _) (fun _ h => h) (fun a s hp => hp) (fun a s o t _ hq => ?_)⟩
  obtain ⟨⟨v, t3, w3, ho, ⟨hv, hK1⟩, hP, hK, hD⟩, hFr⟩ := hq
  exact ⟨⟨v, t3, w3, ho, ⟨hv, 0, hK1⟩, hP, hK, hD⟩, hFr⟩
set_option maxHeartbeats 1000000 in
theorem ws_11 (hGX : wl_GXok GX) (hGM : wl_GMok GM) {x0 m0 : Nat} (τ : wl_St C) (hc : τ.2.2.2.2.2 = none) (y1 y2 y3 : Int32) : ∃ (τ' : wl_St C) (mc ms : Nat), (τ'.2.2.2.2.2 = none ∨ τ' = τ) ∧ mc ≤ 1 ∧ ms ≤ 6 ∧ wl_T11 (wl_St C) l D ka x0 m0 (wl_KX GX ka) (wl_KM GM ka) τ τ' y1 y2 y3 mc ms := by
  have hX := wl_ro_i (l := l) (D := D) (ka := ka) (fr := 1900) (lo := 80000) (R := 0) (P0 := wl_KX GX ka τ x0) (q := x0) (rm := { frames := 2, cells := 0, slots := 0, locals := 40 }) ⟨Nat.le_of_ble_eq_true rfl, Nat.le_refl _, Nat.le_refl _, Nat.le_of_ble_eq_true rfl⟩ (fun tys ws sz h => by
      obtain ⟨q1, cB, f, fs, wr, t0, rfl, ht, ⟨g0, g1, g2, g3, g4, g5⟩, -⟩ := h
      rw [hc] at g3
      exact ⟨0, fs, rfl, ur_X11_outputs l D x0 sz fs g2 g3 g4 g5⟩)
  have hM := ws_Ri (l := l) (D := D) (ka := ka) (GM := GM) (τ := τ) (th := 0) (m0 := m0) hGM (rm := { frames := 2, cells := 0, slots := 0, locals := 80 }) ⟨Nat.le_of_ble_eq_true rfl, Nat.le_refl _, Nat.le_refl _, Nat.le_of_ble_eq_true rfl⟩ (fun fs q1 sz tv hF => by
      obtain ⟨g0, g1, g2, g3, g4, g5, g6, g7⟩ := hF
      rw [hc] at g4
      exact um_X12_outputs l D m0 sz fs g0 g1 g3 g4 g5 g6 g7)
  refine ⟨τ, 0, 0, Or.inr rfl, by decide, by decide, 0, 0, 0, 0, 0, rfl, rfl, hX, fun tys ws sz h0 => wl_grow (hM tys ws sz h0) (fun w hw => hw) ⟨Nat.le_refl _, Nat.le_refl _, Nat.le_refl _, Nat.le_refl _⟩ (Nat.le_refl _) (Nat.le_refl _) (fun _ h => h) (fun a s hp => hp) (fun a s o t _ hq => ?_)⟩
  obtain ⟨⟨v, t3, w3, ho, ⟨hv, hK1⟩, hP, hK, hD⟩, hFr⟩ := hq
  exact ⟨⟨v, t3, w3, ho, ⟨hv, 0, hK1⟩, hP, hK, hD⟩, hFr⟩
set_option maxHeartbeats 1000000 in
theorem ws_13 (hGX : wl_GXok GX) (hGM : wl_GMok GM) {x0 m0 : Nat} (τ : wl_St C) (hst : l.stackTraces = false) (hc : τ.2.2.2.2.2 = none) (y1 y2 y3 : Int32) : ∃ (τ' : wl_St C) (mc ms : Nat), (τ'.2.2.2.2.2 = none ∨ τ' = τ) ∧ mc ≤ 1 ∧ ms ≤ 6 ∧ wl_T13 (wl_St C) l D ka x0 m0 (wl_KX GX ka) (wl_KM GM ka) τ τ' y1 y2 y3 mc ms := by
  by_cases hbad : y1 < 0 ∨ ¬ y1 ≤ 5
  · skip
    have hX := ww_count_bad (l := l) (D := D) (ka := ka) (x0 := x0) (KX := wl_KX GX ka τ) (K1 := wl_KX GX ka τ) (mc := 1) (ms := 6) (wl_KX_Rc τ) y1 (wl_ro_x (rm := { frames := 8, cells := 1, slots := 6, locals := 150 }) (Qc := fun sz => va_Qi (S := Unit) (fun _ _ => False) (fun _ _ => True) (fun q => sz ≤ q)) ⟨Nat.le_of_ble_eq_true rfl, Nat.le_refl _, Nat.le_refl _, Nat.le_of_ble_eq_true rfl⟩ (Nat.le_refl _) (Nat.le_refl _) (fun sz a s o t hq => by obtain ⟨⟨r, u, -, hf, -⟩, -⟩ := hq; exact hf) (fun tys ws sz h => by
        obtain ⟨q1, cB, f, fs, wr, t0, rfl, ht, ⟨g0, g1, g2, g3, g4, g5⟩, -⟩ := h
        rw [hc] at g3
        exact ⟨0, fs, rfl, ut_X11_count l hst D x0 sz fs g2 g3 g4 g5 y1 hbad⟩))
    have hM := ws_Ri (l := l) (D := D) (ka := ka) (GM := GM) (τ := τ) (th := 1) (m0 := m0) hGM (rm := { frames := 2, cells := 0, slots := 0, locals := 80 }) ⟨Nat.le_of_ble_eq_true rfl, Nat.le_refl _, Nat.le_refl _, Nat.le_of_ble_eq_true rfl⟩ (fun fs q1 sz tv hF => by
        obtain ⟨g0, g1, g2, g3, g4, g5, g6, g7⟩ := hF
        rw [hc] at g4
        exact um_X12_count_bad l D m0 sz fs g0 g1 g3 g4 g5 g6 g7 y1 hbad)
    exact ⟨τ, 1, 6, Or.inr rfl, Nat.le_refl _, Nat.le_refl _, 1, 0, _, 1, 6, 0, 0, rfl, rfl, fun z => absurd z (by decide), hX, hM⟩
  · have h1 : ¬ y1 < 0 := fun h => hbad (Or.inl h)
    have h2 : y1 ≤ 5 := Classical.byContradiction fun h => hbad (Or.inr h)
    have hX := ww_count_ok (l := l) (D := D) (ka := ka) (x0 := x0) (KX := wl_KX GX ka τ) (K1 := wl_KX GX ka τ) (mc := 0) (ms := 0) (r := 0) (wl_KX_Rc τ) y1 (wl_ro_i (rm := { frames := 2, cells := 0, slots := 0, locals := 40 }) ⟨Nat.le_of_ble_eq_true rfl, Nat.le_refl _, Nat.le_refl _, Nat.le_of_ble_eq_true rfl⟩ (fun tys ws sz h => by
        obtain ⟨q1, cB, f, fs, wr, t0, rfl, ht, ⟨g0, g1, g2, g3, g4, g5⟩, -⟩ := h
        rw [hc] at g3
        exact ⟨0, fs, rfl, ur_X11_count l D x0 sz fs g2 g3 g4 g5 y1 h1 h2⟩))
    have hM := ws_Ri (l := l) (D := D) (ka := ka) (GM := GM) (τ := τ) (R := 0) (th := 0) (m0 := m0) hGM (rm := { frames := 2, cells := 0, slots := 0, locals := 80 }) ⟨Nat.le_of_ble_eq_true rfl, Nat.le_refl _, Nat.le_refl _, Nat.le_of_ble_eq_true rfl⟩ (fun fs q1 sz tv hF => by
        obtain ⟨g0, g1, g2, g3, g4, g5, g6, g7⟩ := hF
        rw [hc] at g4
        exact um_X12_count_ok l D m0 sz fs g0 g1 g3 g4 g5 g6 g7 y1 h1 h2)
    exact ⟨τ, 0, 0, Or.inr rfl, by decide, by decide, 0, _, 0, 0, 0, 0, 0, rfl, rfl, fun _ => rfl, hX, hM⟩
set_option maxHeartbeats 1000000 in
theorem ws_3 (hGX : wl_GXok GX) (hGM : wl_GMok GM) {x0 m0 : Nat} (τ : wl_St C) (hst : l.stackTraces = false) (y1 y2 y3 : Int32) : ∃ (τ' : wl_St C) (mc ms : Nat), (τ'.2.2.2.2.2 = none ∨ τ' = τ) ∧ mc ≤ 1 ∧ ms ≤ 6 ∧ wl_T3 (wl_St C) l D ka x0 m0 (wl_KX GX ka) (wl_KM GM ka) τ τ' y1 y2 y3 mc ms := by
  by_cases h0 : y1 = 0
  · by_cases hfc : τ.2.2.1 = 0
    · have hv : wl_fp τ.2.2.1 τ.2.2.2.1 = (-1) := if_pos hfc
      have hX := ww_fault_ok (l := l) (D := D) (ka := ka) (x0 := x0) (KX := wl_KX GX ka τ) (K1 := wl_KX GX ka τ) (mc := 0) (ms := 0) (r := (-1)) (wl_KX_Rc τ) y1 (wl_ro_i (rm := { frames := 2, cells := 0, slots := 0, locals := 40 }) ⟨Nat.le_of_ble_eq_true rfl, Nat.le_refl _, Nat.le_refl _, Nat.le_of_ble_eq_true rfl⟩ (fun tys ws sz h => by
          obtain ⟨q1, cB, f, fs, wr, t0, rfl, ht, ⟨g0, g1, g2, g3, g4, g5⟩, -⟩ := h
          exact ⟨0, fs, rfl, hv ▸ ur_X11_fault0 l D x0 sz fs g2 g3 g4 g5 y1 h0⟩))
      have hM := ws_Ri (l := l) (D := D) (ka := ka) (GM := GM) (τ := τ) (R := (-1)) (th := 0) (m0 := m0) hGM (rm := { frames := 2, cells := 0, slots := 0, locals := 80 }) ⟨Nat.le_of_ble_eq_true rfl, Nat.le_refl _, Nat.le_refl _, Nat.le_of_ble_eq_true rfl⟩ (fun fs q1 sz tv hF => by
          obtain ⟨g0, g1, g2, g3, g4, g5, g6, g7⟩ := hF
          exact um_X12_fault_none l D m0 sz fs g0 g1 g3 g4 g5 g6 g7 y1 (Or.inl h0) hfc)
      exact ⟨τ, 0, 0, Or.inr rfl, by decide, by decide, 0, _, (-1), 0, 0, 0, 0, rfl, rfl, fun _ => rfl, hX, hM⟩
    · have hv : wl_fp τ.2.2.1 τ.2.2.2.1 = (τ.2.2.2.1) := if_neg hfc
      have hX := ww_fault_ok (l := l) (D := D) (ka := ka) (x0 := x0) (KX := wl_KX GX ka τ) (K1 := wl_KX GX ka τ) (mc := 0) (ms := 0) (r := (τ.2.2.2.1)) (wl_KX_Rc τ) y1 (wl_ro_i (rm := { frames := 2, cells := 0, slots := 0, locals := 40 }) ⟨Nat.le_of_ble_eq_true rfl, Nat.le_refl _, Nat.le_refl _, Nat.le_of_ble_eq_true rfl⟩ (fun tys ws sz h => by
          obtain ⟨q1, cB, f, fs, wr, t0, rfl, ht, ⟨g0, g1, g2, g3, g4, g5⟩, -⟩ := h
          exact ⟨0, fs, rfl, hv ▸ ur_X11_fault0 l D x0 sz fs g2 g3 g4 g5 y1 h0⟩))
      have hM := ws_Ri (l := l) (D := D) (ka := ka) (GM := GM) (τ := τ) (R := (τ.2.2.2.1)) (th := 0) (m0 := m0) hGM (rm := { frames := 2, cells := 0, slots := 0, locals := 80 }) ⟨Nat.le_of_ble_eq_true rfl, Nat.le_refl _, Nat.le_refl _, Nat.le_of_ble_eq_true rfl⟩ (fun fs q1 sz tv hF => by
          obtain ⟨g0, g1, g2, g3, g4, g5, g6, g7⟩ := hF
          exact um_X12_fault_at l D m0 sz fs g0 g1 g3 g4 g5 g6 g7 y1 h0 hfc)
      exact ⟨τ, 0, 0, Or.inr rfl, by decide, by decide, 0, _, (τ.2.2.2.1), 0, 0, 0, 0, rfl, rfl, fun _ => rfl, hX, hM⟩
  · by_cases h1 : y1 = 1
    · by_cases hfc : τ.2.2.1 = 0
      · have hv : wl_fp τ.2.2.1 τ.2.2.2.2.1 = (-1) := if_pos hfc
        have hX := ww_fault_ok (l := l) (D := D) (ka := ka) (x0 := x0) (KX := wl_KX GX ka τ) (K1 := wl_KX GX ka τ) (mc := 0) (ms := 0) (r := (-1)) (wl_KX_Rc τ) y1 (wl_ro_i (rm := { frames := 2, cells := 0, slots := 0, locals := 40 }) ⟨Nat.le_of_ble_eq_true rfl, Nat.le_refl _, Nat.le_refl _, Nat.le_of_ble_eq_true rfl⟩ (fun tys ws sz h => by
            obtain ⟨q1, cB, f, fs, wr, t0, rfl, ht, ⟨g0, g1, g2, g3, g4, g5⟩, -⟩ := h
            exact ⟨0, fs, rfl, hv ▸ ur_X11_fault1 l D x0 sz fs g2 g3 g4 g5 y1 h1⟩))
        have hM := ws_Ri (l := l) (D := D) (ka := ka) (GM := GM) (τ := τ) (R := (-1)) (th := 0) (m0 := m0) hGM (rm := { frames := 2, cells := 0, slots := 0, locals := 80 }) ⟨Nat.le_of_ble_eq_true rfl, Nat.le_refl _, Nat.le_refl _, Nat.le_of_ble_eq_true rfl⟩ (fun fs q1 sz tv hF => by
            obtain ⟨g0, g1, g2, g3, g4, g5, g6, g7⟩ := hF
            exact um_X12_fault_none l D m0 sz fs g0 g1 g3 g4 g5 g6 g7 y1 (Or.inr h1) hfc)
        exact ⟨τ, 0, 0, Or.inr rfl, by decide, by decide, 0, _, (-1), 0, 0, 0, 0, rfl, rfl, fun _ => rfl, hX, hM⟩
      · have hv : wl_fp τ.2.2.1 τ.2.2.2.2.1 = (τ.2.2.2.2.1) := if_neg hfc
        have hX := ww_fault_ok (l := l) (D := D) (ka := ka) (x0 := x0) (KX := wl_KX GX ka τ) (K1 := wl_KX GX ka τ) (mc := 0) (ms := 0) (r := (τ.2.2.2.2.1)) (wl_KX_Rc τ) y1 (wl_ro_i (rm := { frames := 2, cells := 0, slots := 0, locals := 40 }) ⟨Nat.le_of_ble_eq_true rfl, Nat.le_refl _, Nat.le_refl _, Nat.le_of_ble_eq_true rfl⟩ (fun tys ws sz h => by
            obtain ⟨q1, cB, f, fs, wr, t0, rfl, ht, ⟨g0, g1, g2, g3, g4, g5⟩, -⟩ := h
            exact ⟨0, fs, rfl, hv ▸ ur_X11_fault1 l D x0 sz fs g2 g3 g4 g5 y1 h1⟩))
        have hM := ws_Ri (l := l) (D := D) (ka := ka) (GM := GM) (τ := τ) (R := (τ.2.2.2.2.1)) (th := 0) (m0 := m0) hGM (rm := { frames := 2, cells := 0, slots := 0, locals := 80 }) ⟨Nat.le_of_ble_eq_true rfl, Nat.le_refl _, Nat.le_refl _, Nat.le_of_ble_eq_true rfl⟩ (fun fs q1 sz tv hF => by
            obtain ⟨g0, g1, g2, g3, g4, g5, g6, g7⟩ := hF
            exact um_X12_fault_line l D m0 sz fs g0 g1 g3 g4 g5 g6 g7 y1 h1 hfc)
        exact ⟨τ, 0, 0, Or.inr rfl, by decide, by decide, 0, _, (τ.2.2.2.2.1), 0, 0, 0, 0, rfl, rfl, fun _ => rfl, hX, hM⟩
    · have hbad : y1 < 0 ∨ ¬ y1 ≤ 1 := by
        by_cases hz : y1 < 0
        · exact Or.inl hz
        · refine Or.inr (fun hq => ?_)
          obtain ⟨N, hN1, hN⟩ := nI_of2 (x := y1) (M := 1) (n := 1) (by decide) hz hq
          have h2 : N = 0 ∨ N = 1 := by omega
          rcases h2 with rfl | rfl
          · exact h0 (hN.trans (by decide))
          · exact h1 (hN.trans (by decide))
      have hX := ww_fault_bad (l := l) (D := D) (ka := ka) (x0 := x0) (KX := wl_KX GX ka τ) (K1 := wl_KX GX ka τ) (mc := 1) (ms := 6) (wl_KX_Rc τ) y1 (wl_ro_x (rm := { frames := 8, cells := 1, slots := 6, locals := 150 }) (Qc := fun sz => va_Qi (S := Unit) (fun _ _ => False) (fun _ _ => True) (fun q => sz ≤ q)) ⟨Nat.le_of_ble_eq_true rfl, Nat.le_refl _, Nat.le_refl _, Nat.le_of_ble_eq_true rfl⟩ (Nat.le_refl _) (Nat.le_refl _) (fun sz a s o t hq => by obtain ⟨⟨r, u, -, hf, -⟩, -⟩ := hq; exact hf) (fun tys ws sz h => by
          obtain ⟨q1, cB, f, fs, wr, t0, rfl, ht, ⟨g0, g1, g2, g3, g4, g5⟩, -⟩ := h
          exact ⟨0, fs, rfl, ut_X11_fault l hst D x0 sz fs g2 g3 g4 g5 y1 hbad⟩))
      have hM := ws_Ri (l := l) (D := D) (ka := ka) (GM := GM) (τ := τ) (th := 1) (m0 := m0) hGM (rm := { frames := 2, cells := 0, slots := 0, locals := 80 }) ⟨Nat.le_of_ble_eq_true rfl, Nat.le_refl _, Nat.le_refl _, Nat.le_of_ble_eq_true rfl⟩ (fun fs q1 sz tv hF => by
          obtain ⟨g0, g1, g2, g3, g4, g5, g6, g7⟩ := hF
          exact um_X12_fault_bad l D m0 sz fs g0 g1 g3 g4 g5 g6 g7 y1 h0 h1)
      exact ⟨τ, 1, 6, Or.inr rfl, Nat.le_refl _, Nat.le_refl _, 1, 0, _, 1, 6, 0, 0, rfl, rfl, fun z => absurd z (by decide), hX, hM⟩
end WLS
