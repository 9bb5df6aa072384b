/-! ===== 53: methods whose runs end somewhen: the evaluator without a bound on instructions ===== -/
/-- what the first run says that ends -/
noncomputable def ev_lim (f : Nat → Option ev_A) : Option ev_A := @dite (Option ev_A) (∃ (n : Nat) (r : ev_A), f n = some r) (Classical.propDecidable _) (fun h => f (Classical.choose h)) (fun _ => none)
theorem ev_lim_of {f : Nat → Option ev_A} (hm : ∀ (n j : Nat) (r : ev_A), f n = some r → f (n + j) = some r) {n : Nat} {r : ev_A} (h : f n = some r) : ev_lim f = some r := by
  have hex : ∃ (n : Nat) (r : ev_A), f n = some r := ⟨n, r, h⟩
  unfold ev_lim
  rw [dif_pos hex]
  obtain ⟨r0, h0⟩ := Classical.choose_spec hex
  rw [h0]
  have h1 := hm _ n _ h0
  have h2 := hm _ (Classical.choose hex) _ h
  rw [Nat.add_comm] at h2
  rw [h1] at h2
  exact h2
theorem ev_lim_ex {f : Nat → Option ev_A} {r : ev_A} (h : ev_lim f = some r) : ∃ n : Nat, f n = some r := by
  by_cases hex : ∃ (n : Nat) (r : ev_A), f n = some r
  · unfold ev_lim at h
    rw [dif_pos hex] at h
    exact ⟨_, h⟩
  · unfold ev_lim at h
    rw [dif_neg hex] at h
    cases h
noncomputable def ev_big (nr : Nat) (dfl : Nat → Nat) (mt : List ev_Me) : Nat → Nat → List Nat → ev_H → Option ev_A
  | 0, _, _, _ => none
  | d + 1, mid, as, h => match mt[mid]? with
    | some m => bif Nat.ble (ev_ent as).length m.2.2.1 then ev_lim (fun n => ev_run nr dfl (ev_big nr dfl mt d) m.2.2.2.2 m.2.2.2.1 n 0 (ev_ent as ++ List.replicate (m.2.2.1 - (ev_ent as).length) 73786976294838206464) [] h 0 0) else none
    | none => none
theorem ev_big_of {nr : Nat} {dfl : Nat → Nat} {mt : List ev_Me} {d n mid : Nat} {as : List Nat} {h : ev_H} {m : ev_Me} {r : ev_A} (hm : mt[mid]? = some m) (hl : (ev_ent as).length ≤ m.2.2.1) (hr : ev_run nr dfl (ev_big nr dfl mt d) m.2.2.2.2 m.2.2.2.1 n 0 (ev_ent as ++ List.replicate (m.2.2.1 - (ev_ent as).length) 73786976294838206464) [] h 0 0 = some r) : ev_big nr dfl mt (d + 1) mid as h = some r := by
  unfold ev_big
  rw [hm]
  dsimp only
  rw [Nat.ble_eq_true_of_le hl, cond_true]
  exact ev_lim_of (fun n j r h => ev_run_fuel n j _ _ _ _ _ _ h) hr
theorem ev_big_up1 {nr : Nat} {dfl : Nat → Nat} {mt : List ev_Me} : ∀ (d mid : Nat) (as : List Nat) (h : ev_H) (r : ev_A), ev_big nr dfl mt d mid as h = some r → ev_big nr dfl mt (d + 1) mid as h = some r
  | 0, _, _, _, _, h => by cases h
  | d + 1, mid, as, h, r, hr => by
    have hr' : (match mt[mid]? with
      | some m => bif Nat.ble (ev_ent as).length m.2.2.1 then ev_lim (fun n => ev_run nr dfl (ev_big nr dfl mt d) m.2.2.2.2 m.2.2.2.1 n 0 (ev_ent as ++ List.replicate (m.2.2.1 - (ev_ent as).length) 73786976294838206464) [] h 0 0) else none
      | none => none) = some r := hr
    cases hm : mt[mid]? with
    | none => rw [hm] at hr'; cases hr'
    | some m =>
      rw [hm] at hr'
      dsimp only at hr'
      cases hq : Nat.ble (ev_ent as).length m.2.2.1
      · rw [hq, cond_false] at hr'; cases hr'
      · rw [hq, cond_true] at hr'
        obtain ⟨n, hn⟩ := ev_lim_ex hr'
        exact ev_big_of hm (Nat.le_of_ble_eq_true hq) (ev_run_up (fun mid as h r q => ev_big_up1 d mid as h r q) n _ _ _ _ _ _ hn)
theorem ev_big_le {nr : Nat} {dfl : Nat → Nat} {mt : List ev_Me} {d d' mid : Nat} {as : List Nat} {h : ev_H} {r : ev_A} (hr : ev_big nr dfl mt d mid as h = some r) (hd : d ≤ d') : ev_big nr dfl mt d' mid as h = some r := by
  obtain ⟨k, rfl⟩ := Nat.exists_eq_add_of_le hd
  clear hd
  induction k with
  | zero => exact hr
  | succ k ih => exact ev_big_up1 _ _ _ _ _ ih
/-- what the bounded evaluator says, this one says -/
theorem ev_big_met {nr : Nat} {dfl : Nat → Nat} {mt : List ev_Me} : ∀ (d mid : Nat) (as : List Nat) (h : ev_H) (r : ev_A), ev_met nr dfl mt d mid as h = some r → ev_big nr dfl mt d mid as h = some r
  | 0, _, _, _, _, h => by cases h
  | d + 1, mid, as, h, r, hr => by
    have hr' : (match mt[mid]? with
      | some m => bif Nat.ble (ev_ent as).length m.2.2.1 then ev_run nr dfl (ev_met nr dfl mt d) m.2.2.2.2 m.2.2.2.1 10000000 0 (ev_ent as ++ List.replicate (m.2.2.1 - (ev_ent as).length) 73786976294838206464) [] h 0 0 else none
      | none => none) = some r := hr
    cases hm : mt[mid]? with
    | none => rw [hm] at hr'; cases hr'
    | some m =>
      rw [hm] at hr'
      dsimp only at hr'
      cases hq : Nat.ble (ev_ent as).length m.2.2.1
      · rw [hq, cond_false] at hr'; cases hr'
      · rw [hq, cond_true] at hr'
        exact ev_big_of hm (Nat.le_of_ble_eq_true hq) (ev_run_up (fun mid as h r q => ev_big_met d mid as h r q) _ _ _ _ _ _ _ hr')
set_option maxHeartbeats 1000000 in
theorem ev_big_ok {ka : ev_KA} {l : Launch} {D : va_G} {cl : List vw_C} {oc : String} {W0 WN : List Jvm.Cond} {mt : List ev_Me} {wsR : va_W} {dfl : Nat → Nat} {tyf : Nat → Nat → FieldType} (hG : ∀ w ∈ W0, goodWord w = true) (hWN : ∀ w ∈ WN, ev_isNest w = false → w ∈ W0) (hC : ev_Cls W0 cl tyf) (hc1 : ∃ T1 : u_T, cl[1]? = some ("java/lang/String", T1, 2)) (hT : ev_Tab W0 WN cl dfl tyf mt oc) : ∀ d : Nat, ev_Cal l D cl dfl tyf ka oc W0 WN mt wsR d (ev_big wsR.length dfl mt d)
  | 0 => by
    intro mid as h ret h' mc ms hr
    cases hr
  | d + 1 => by
    have ih := ev_big_ok (l := l) (D := D) (ka := ka) (oc := oc) (wsR := wsR) hG hWN hC hc1 hT d
    intro mid as h ret h' mc ms hr y bytes maxL rt code hmt ads tys ws vs sz hS hM
    have hr : (match mt[mid]? with
      | some m => bif Nat.ble (ev_ent as).length m.2.2.1 then ev_lim (fun n => ev_run wsR.length dfl (ev_big wsR.length dfl mt d) m.2.2.2.2 m.2.2.2.1 n 0 (ev_ent as ++ List.replicate (m.2.2.1 - (ev_ent as).length) 73786976294838206464) [] h 0 0) else none
      | none => none) = some (ret, h', mc, ms) := hr
    rw [hmt] at hr
    dsimp only at hr
    cases hq : Nat.ble (ev_ent as).length maxL
    · rw [hq, cond_false] at hr; cases hr
    · rw [hq, cond_true] at hr
      obtain ⟨n, hr⟩ := ev_lim_ex hr
      have hlen := Nat.le_of_ble_eq_true hq
      obtain ⟨hpl, hrow⟩ := hT mid y bytes maxL rt code hmt
      refine Met.ofW (cc := bytes) (maxL := maxL) (ret := rt) hpl rfl ?_
      intro p e s m args below meth c s₁ B hml hv
      obtain ⟨rfl, hsz, hP, hK, hDD, hNw, hCF⟩ := hv
      have hx := B.exec
      have hb := B.bytes
      have hrt := B.returns
      have hts := atoms_spec (ws := Jvm.Cond.code y bytes maxL rt :: W0) B.pre
      have hW0 : ∀ w ∈ W0, w.before vs.toArray s = true := fun w hw => hts w (List.mem_cons_of_mem _ hw)
      have hAll : ∀ w ∈ WN, w.before vs.toArray s = true := by
        intro w hw
        cases hn : ev_isNest w
        · exact hW0 w (hWN w hw hn)
        · exact va_Nw.use (ev_nest_on hn) (hNw w hw hn)
      have hown : s.vm.findClass y.cls = some m.cls := findClass_of_methodNamed B.named
      have hlocks := B.notSynchronized
      have hin : meth.name = y.name := (name_of_methodNamed B.named B.method).1
      have hRA : ∀ (k : Nat) (q : Nat × va_E), wsR[k]? = some q → ¬ va_A ws sz q.1 := by
        intro k q hk hA
        have hk2 : (wsR ++ ws)[k]? = some q := by rw [List.getElem?_append_left (List.getElem?_eq_some_iff.mp hk).1]; exact hk
        rcases hA with ⟨j, e0, hj⟩ | hA
        · have hj2 : (wsR ++ ws)[wsR.length + j]? = some (q.1, e0) := by
            rw [List.getElem?_append_right (Nat.le_add_right _ _), Nat.add_sub_cancel_left]; exact hj
          have h1 := hDD.1 _ _ _ _ hk2 hj2 rfl
          have h2 := (List.getElem?_eq_some_iff.mp hk).1
          omega
        · have h2 := (hP k q hk2).lt
          omega
      have hRO : ev_RO D cl (va_A ws sz) s.heap wsR := by
        intro H1 locs1 hS1 k q hk
        have hk2 : (wsR ++ ws)[k]? = some q := by rw [List.getElem?_append_left (List.getElem?_eq_some_iff.mp hk).1]; exact hk
        exact (hP k q hk2).kept (hS1.2.1 q.1 (hP k q hk2).lt (hRA k q hk))
      rw [lg_entry_eq]
      have hL := ev_entry hS hlen
      have hD0 : va_D (va_A ws sz) ws := hDD.ev_r.self
      exact ev_run_ok (ads0 := ads) (tys0 := tys) (ws0 := ws) (l2 := []) (t2 := []) hx hb hrt hlocks hml rfl hsz hW0 hG hown hC hc1 hCF hRO hRA hDD.ev_l ih hNw (Nat.le_refl _) (Nat.le_refl _) (Nat.le_refl _) (Nat.le_refl _) (hrow (meth.name = "<init>") vs.toArray s hAll (fun q => hin.trans q)) n 0 _ [] h 0 0 ws _ [] s.heap [] hr (by simpa using hL) trivial (by simpa using hM) (by simpa using hK) ⟨hP, hD0, va_S.rf⟩
set_option maxRecDepth 100000 in
/-- what this evaluator says holds on the machine -/
theorem al_bcal (l : Launch) (D : va_G) (ka : ev_KA) (d : Nat) : ev_Cal l D al_cl al_dfl al_tyf ka "TableTongue$Part" al_W0 al_WN al_mt [] d (ev_big 0 al_dfl al_mt d) := by
  have h := ev_big_ok (l := l) (D := D) (ka := ka) (oc := "TableTongue$Part") (wsR := []) al_good (fun w hw hn => ev_W1_of hw hn) al_Cls al_c1 al_Tab d
  rw [al_mt_eq] at h
  exact h
/-- a contract of the law's kind out of this evaluator's answers on all heaps of a kind -/
theorem wl_of_big {l : Launch} {D : va_G} {ka : ev_KA} {mid d fr lo mc ms q maxL : Nat} {y : MethodName} {bytes : ByteArray} {rt : Option FieldType} {code : List (List ev_I)} (hmt : al_mt[mid]? = some (y, bytes, maxL, rt, code)) {as : List Nat} {vs : List Value} {V : Option Value} {I0 I1 : ev_H → Prop} (hS : ∀ ads : List Nat, ads[0]? = some q → ev_S ka ads as vs)
    (hev : ∀ h, I0 h → ∃ (ret : Option Nat) (h' : ev_H) (mc' ms' : Nat), ev_big 0 al_dfl al_mt d mid as h = some (ret, h', mc', ms') ∧ mc' ≤ mc ∧ ms' ≤ ms ∧ I1 h' ∧ ∀ (ads : List Nat) (v : Option Value), ev_rv ka ads ret v → v = V) (hd : d ≤ fr) (hlo : 64 * d ≤ lo) : wl_M l D ka y (lw_w y bytes maxL rt) fr lo (wl_E ka I0 q) vs (fun v t w => v = V ∧ wl_E ka I1 q t w) mc ms := by
  intro tys ws sz h0
  obtain ⟨l2, h, hM, hI⟩ := h0
  obtain ⟨ret, h', mc', ms', he, h1, h2, hI1, hV⟩ := hev h hI
  have hMet := al_bcal l D ka d mid _ _ _ _ _ _ he y bytes maxL rt code hmt (q :: l2) tys ws vs sz (hS _ rfl) hM
  refine wl_grow hMet (fun w hw => ?_) ⟨hd, h1, h2, hlo⟩ h1 h2 (fun _ h => h) (fun a s hp => ?_) (fun a s o t hp hq => ?_)
  · rcases List.mem_cons.mp hw with rfl | hw
    · exact List.mem_cons_self
    · exact List.mem_cons_of_mem _ (List.mem_filter.mpr ⟨al_W0t w hw, al_good w hw⟩)
  · obtain ⟨e1, e2, e3, e4, e5, e6, e7, e8⟩ := hp
    exact ⟨e1, e2, e3, e4, e5, e6, e7⟩
  · obtain ⟨⟨l3, t3, w3, v, ho, hv, hM', hP', hK', hD'⟩, hF⟩ := hq
    exact ⟨⟨v, tys ++ t3, w3, ho, ⟨hV _ v hv, l2 ++ l3, h', hM', hI1⟩, hP', hK', hD'⟩, hF⟩
