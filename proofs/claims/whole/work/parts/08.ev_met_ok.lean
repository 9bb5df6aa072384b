/-! ===== 08: a whole method's contract out of its evaluation ===== -/
def ev_okI (W0 : List Jvm.Cond) (cl : List vw_C) (dfl : Nat → Nat) (tyf : Nat → Nat → FieldType) (mt : List ev_Me) (oc own : String) (cc : ByteArray) (ini : Prop) (args : Array Value) (s : State) (x : ev_I) : Prop :=
  decode cc x.1 = .ok (x.2.1, ev_len x.2.1 x.2.2.1) ∧ (ev_pre x.2.1 x.2.2.2.1 x.2.2.2.2.2.1 = false → ev_lk cl dfl tyf own ini args s x.2.1 x.2.2.2.1 x.2.2.2.2.1 x.2.2.2.2.2.1 ∧ ev_lkC W0 cl mt own args s x.2.1 x.2.2.2.1 x.2.2.2.2.1 x.2.2.2.2.2.1) ∧ ev_lkK cl dfl tyf oc own args s x.2.1 x.2.2.2.1 x.2.2.2.2.1 x.2.2.2.2.2.1
/-- what the tables say of every method of the list -/
def ev_Tab (W0 WN : List Jvm.Cond) (cl : List vw_C) (dfl : Nat → Nat) (tyf : Nat → Nat → FieldType) (mt : List ev_Me) (oc : String) : Prop :=
  ∀ (mid : Nat) (y : MethodName) (bytes : ByteArray) (maxL : Nat) (rt : Option FieldType) (code : List (List ev_I)), mt[mid]? = some (y, bytes, maxL, rt, code) → plainName y.cls = true ∧
    ∀ (ini : Prop) (args : Array Value) (s : State), (∀ w ∈ WN, w.before args s = true) → (y.name = "<init>" → ini) → ∀ l ∈ code, ∀ x ∈ l, ev_okI W0 cl dfl tyf mt oc y.cls bytes ini args s x
theorem ev_rok_ok {ka : ev_KA} {ads : List Nat} {ty : FieldType} {x : Nat} {v : Value} (h1 : ev_isI x = true) (h : ev_rok ty x = true) (hv : ev_v ka ads x v) : v = .int (nI x) ∧ narrow ty (.int (nI x)) = .int (nI x) := by
  obtain ⟨rfl, hx⟩ := hv.i h1
  refine ⟨rfl, ?_⟩
  cases ty <;> simp only [ev_rok] at h
  all_goals first
    | (cases h; done)
    | rfl
    | skip
  · have h := Nat.eq_of_beq_eq_true h
    show Value.int (nI x).toInt8.toInt32 = _
    rw [ev_i2b hx]
    show Value.int (nI (ev_b8 x)) = _
    rw [h]
  · have h := Nat.blt_eq.mp h
    show Value.int (nI x).toUInt32.toUInt16.toUInt32.toInt32 = _
    rw [← lg_i2c_nf, ev_i2c hx, Nat.mod_eq_of_lt h]
  · have h := Nat.blt_eq.mp h
    rcases (show x = 0 ∨ x = 1 by omega) with rfl | rfl <;> rfl
theorem va_D.ev_r {A : Nat → Prop} {w1 w2 : va_W} (h : va_D A (w1 ++ w2)) : va_D A w2 := by
  have key : ∀ (k : Nat) (q : Nat × va_E), w2[k]? = some q → (w1 ++ w2)[w1.length + k]? = some q := fun k q hk => by
    rw [List.getElem?_append_right (Nat.le_add_right _ _), Nat.add_sub_cancel_left]
    exact hk
  exact ⟨fun i j x y hx hy hxy => by have := h.1 _ _ x y (key i x hx) (key j y hy) hxy; omega, fun k q hk => h.2 _ q (key k q hk)⟩
theorem va_D.ev_l {A : Nat → Prop} {w1 w2 : va_W} (h : va_D A (w1 ++ w2)) : va_D A w1 := by
  have key : ∀ (k : Nat) (q : Nat × va_E), w1[k]? = some q → (w1 ++ w2)[k]? = some q := fun k q hk => by
    rw [List.getElem?_append_left (List.getElem?_eq_some_iff.mp hk).1]
    exact hk
  exact ⟨fun i j x y hx hy hxy => h.1 _ _ x y (key i x hx) (key j y hy) hxy, fun k q hk => h.2 _ q (key k q hk)⟩
theorem ev_run_mono {nr : Nat} {dfl : Nat → Nat} {callf : Nat → List Nat → ev_H → Option ev_A} {code : List (List ev_I)} {rt : Option FieldType} {ret : Option Nat} {h' : ev_H} {mc ms : Nat} : ∀ (n pc : Nat) (L st : List Nat) (h : ev_H) (nc ns : Nat), ev_run nr dfl callf code rt n pc L st h nc ns = some (ret, h', mc, ms) → nc ≤ mc ∧ ns ≤ ms
  | 0, _, _, _, _, _, _, h => by cases h
  | n + 1, pc, L, st, h, nc, ns, hr => by
    rw [ev_run_s] at hr
    split at hr
    · split at hr
      · simp only [Option.some.injEq, Prod.mk.injEq] at hr
        obtain ⟨_, _, rfl, rfl⟩ := hr
        exact ⟨Nat.le_refl _, Nat.le_refl _⟩
      · split at hr
        · rename_i g hg
          cases hq : (Nat.ble nc g.2.2.1 && Nat.ble ns g.2.2.2)
          · rw [hq, cond_false] at hr; cases hr
          · rw [hq, cond_true] at hr
            simp only [Bool.and_eq_true] at hq
            obtain ⟨h1, h2⟩ := ev_run_mono n _ _ _ _ _ _ hr
            exact ⟨Nat.le_trans (Nat.le_of_ble_eq_true hq.1) h1, Nat.le_trans (Nat.le_of_ble_eq_true hq.2) h2⟩
        · cases hr
    · cases hr
section EVM
variable {p : Program} {l : Launch} {e : Env} {R : Room} {s : State} {m : MethodId} {args : Array Value} {below : List Frame} {meth : Method} {c : Code} {cc : ByteArray}
variable {D : va_G} {cl : List vw_C} {A : Nat → Prop} {wsR ws0 : va_W} {oc own : String} {dfl : Nat → Nat} {tyf : Nat → Nat → FieldType} {W0 WN : List Jvm.Cond} {mt : List ev_Me}
theorem ev_end_ok {ka : ev_KA} {H : Heap} {locs : List Loc} {mc ms pc ls0 sz n0 : Nat} {i : Instr} {rt : Option FieldType} {ret : Option Nat} {st : List Nat} {h' : ev_H} {ads0 l2 : List Nat} {tys0 t2 : List (ClassId × FieldType)} {ws : va_W} {ls : Array Slot} {vs : List Value} (hx : p.tables.exec = Jvm.exec) (hb : c.code = cc) (hr : meth.sig.returnType = rt) (hlocks : meth.locks = false) (hAe : A = va_A ws0 sz)
    (hd : decode cc pc = .ok (i, ev_len i n0)) (he : ev_end i rt st = some ret) (hS : ev_S ka (ads0 ++ l2) st vs) (hM : ev_M ka oc (tys0 ++ t2) (ads0 ++ l2) h' (wsR ++ ws)) (hK : va_K D cl (tys0 ++ t2) s) (hWd : ev_W D cl A s.heap wsR ws H locs) :
    W p l e R s m args below meth c H locs mc ms (MQ below (ev_Qc D cl ka oc wsR ws0 tys0 ads0 sz ret h') args s mc ms A) (F0 m pc ls vs) := by
  obtain ⟨hP, hD, hSS⟩ := hWd
  have hq : ∀ (v : Option Value), ev_rv ka (ads0 ++ l2) ret v → ∀ t : State, t.heap = H → s.WarmedH t.vm → ev_Qc D cl ka oc wsR ws0 tys0 ads0 sz ret h' args s (.returned v) t := by
    intro v hv t ht hW
    subst hAe
    exact ⟨⟨l2, t2, ws, v, rfl, hv, hM, by rw [ht]; exact hP, va_K.moved hW.alike hK, hD⟩, hSS.F ht⟩
  cases i with
  | return_ =>
    simp only [ev_end] at he
    split at he
    · cases he
      obtain rfl := hS.nil
      exact W.vret hx hb hr (hq none trivial) hSS.2.2 hd
    · cases he
  | ireturn =>
    simp only [ev_end] at he
    split at he
    · rename_i ty x
      obtain ⟨h1, h2⟩ := ev_bif2 he
      simp only [Bool.and_eq_true] at h1
      subst h2
      obtain ⟨v1, r1, rfl, h3, h4⟩ := hS.cons
      obtain rfl := h4.nil
      obtain ⟨rfl, h5⟩ := ev_rok_ok h1.1 h1.2 h3
      exact W.zret hx hb hr h5 (hq (some _) h3) hSS.2.2 hd
    · cases he
  | lreturn =>
    simp only [ev_end] at he
    split at he
    · rename_i x
      obtain ⟨h1, h2⟩ := ev_bif2 he
      subst h2
      obtain ⟨v1, r1, rfl, h3, h4⟩ := hS.cons
      obtain rfl := h4.nil
      obtain ⟨rfl, h5⟩ := h3.l h1
      exact W.lret hx hb hr (hq (some _) h3) hSS.2.2 hd
    · cases he
  | areturn =>
    simp only [ev_end] at he
    split at he
    · rename_i ty x
      obtain ⟨h1, h2⟩ := ev_bif2 he
      simp only [Bool.and_eq_true, Bool.or_eq_true] at h1
      subst h2
      obtain ⟨v1, r1, rfl, h3, h4⟩ := hS.cons
      obtain rfl := h4.nil
      have hty : (∃ n, ty = .object n) ∨ ∃ t, ty = .array t := by
        have := h1.1
        cases ty <;> simp [ev_isO] at this
        · exact Or.inl ⟨_, rfl⟩
        · exact Or.inr ⟨_, rfl⟩
      have hv : v1 = .null ∨ ∃ a, v1 = .ref a := by
        rcases h1.2 with h | h
        · obtain ⟨q, _, rfl⟩ := h3.r h; exact Or.inr ⟨q, rfl⟩
        · exact Or.inl (h3.n h)
      exact W.aret hx hb hr hty hv (hq (some _) h3) hSS.2.2 hd
    · cases he
  | _ => cases he
theorem ev_run_ok {ka : ev_KA} {callf : Nat → List Nat → ev_H → Option ev_A} {d ls0 sz mc ms : Nat} {rt : Option FieldType} {ret : Option Nat} {h' : ev_H} {ads0 : List Nat} {tys0 : List (ClassId × FieldType)} {code : List (List ev_I)} (hx : p.tables.exec = Jvm.exec) (hb : c.code = cc) (hr : meth.sig.returnType = rt) (hlocks : meth.locks = false) (hml : c.maxLocals = ls0) (hAe : A = va_A ws0 sz) (hsz : s.heap.size = sz)
    (hW0 : ∀ w ∈ W0, w.before args s = true) (hG : ∀ w ∈ W0, goodWord w = true) (hown : s.vm.findClass own = some m.cls) (hC : ev_Cls W0 cl tyf) (hc1 : ∃ T1 : u_T, cl[1]? = some ("java/lang/String", T1, 2)) (hCF : ev_CF dfl tyf ka A s) (hRO : ev_RO D cl A s.heap wsR) (hRA : ∀ (k : Nat) (q : Nat × va_E), wsR[k]? = some q → ¬ A q.1) (hRD : va_D (fun _ => True) wsR)
    (hcal : ev_Cal l D cl dfl tyf ka oc W0 WN mt wsR d callf) (hNw : ∀ w ∈ WN, ev_isNest w = true → va_Nw w s) (hRf : d + 1 ≤ R.frames) (hRl : 64 * (d + 1) ≤ R.locals) (hRc : mc ≤ R.cells) (hRs : ms ≤ R.slots) (hrow : ∀ l ∈ code, ∀ x ∈ l, ev_okI W0 cl dfl tyf mt oc own cc (meth.name = "<init>") args s x) :
    ∀ (n pc : Nat) (L st : List Nat) (h : ev_H) (nc ns : Nat) (l2 : List Nat) (t2 : List (ClassId × FieldType)) (ws : va_W) (ls : Array Slot) (vs : List Value) (H : Heap) (locs : List Loc), ev_run wsR.length dfl callf code rt n pc L st h nc ns = some (ret, h', mc, ms) → ev_L ka (ads0 ++ l2) ls0 L ls → ev_S ka (ads0 ++ l2) st vs → ev_M ka oc (tys0 ++ t2) (ads0 ++ l2) h (wsR ++ ws) → va_K D cl (tys0 ++ t2) s → ev_W D cl A s.heap wsR ws H locs →
      W p l e R s m args below meth c H locs nc ns (MQ below (ev_Qc D cl ka oc wsR ws0 tys0 ads0 sz ret h') args s mc ms A) (F0 m pc ls vs)
  | 0, _, _, _, _, _, _, _, _, _, _, _, _, _, h, _, _, _, _, _ => by cases h
  | n + 1, pc, L, st, h, nc, ns, l2, t2, ws, ls, vs, H, locs, hrun, hL, hS, hM, hK, hWd => by
    rw [ev_run_s] at hrun
    split at hrun
    · rename_i x hx0
      obtain ⟨⟨l0, hl0, hx1⟩, hx2⟩ := ev_ft_ok hx0
      obtain ⟨hd, hlk, hlc⟩ := hrow l0 hl0 x hx1
      rw [hx2] at hd
      split at hrun
      · rename_i r he
        simp only [Option.some.injEq, Prod.mk.injEq] at hrun
        obtain ⟨rfl, rfl, rfl, rfl⟩ := hrun
        exact ev_end_ok (ls0 := ls0) hx hb hr hlocks hAe hd he hS hM hK hWd
      · split at hrun
        · rename_i g hg
          cases hq : (Nat.ble nc g.2.2.1 && Nat.ble ns g.2.2.2)
          · rw [hq, cond_false] at hrun; cases hrun
          · rw [hq, cond_true] at hrun
            obtain ⟨m1, m2⟩ := ev_run_mono n _ _ _ _ _ _ hrun
            obtain ⟨⟨pc', L', st'⟩, h2, nc', ns'⟩ := g
            have hAA : ∀ q, s.heap.size ≤ q → A q := fun q hq => by rw [hAe]; exact Or.inr (hsz ▸ hq)
            refine ev_stepX_ok hx hb hml hW0 hG hown hC hRO hAA hRA hRD hcal hNw hCF hc1 hRf hRl hd hlk hlc hg hL hS hM hK hWd (Nat.le_trans m1 hRc) (Nat.le_trans m2 hRs) (fun ls' vs' t3 l3 ws' H' locs' g1 g2 g3 g4 g5 => ?_)
            rw [List.append_assoc] at g1 g2 g3 g4
            rw [List.append_assoc] at g3
            exact ev_run_ok hx hb hr hlocks hml hAe hsz hW0 hG hown hC hc1 hCF hRO hRA hRD hcal hNw hRf hRl hRc hRs hrow n pc' L' st' h2 nc' ns' _ _ ws' ls' vs' H' locs' hrun g1 g2 g3 g4 g5
        · cases hrun
    · cases hrun
end EVM
set_option maxHeartbeats 1000000 in
theorem ev_met_ok {ka : ev_KA} {l : Launch} {D : va_G} {cl : List vw_C} {oc : String} {W0 WN : List Jvm.Cond} {mt : List ev_Me} {wsR : va_W} {dfl : Nat → Nat} {tyf : Nat → Nat → FieldType} (hG : ∀ w ∈ W0, goodWord w = true) (hWN : ∀ w ∈ WN, ev_isNest w = false → w ∈ W0) (hC : ev_Cls W0 cl tyf) (hc1 : ∃ T1 : u_T, cl[1]? = some ("java/lang/String", T1, 2)) (hT : ev_Tab W0 WN cl dfl tyf mt oc) : ∀ d : Nat, ev_Cal l D cl dfl tyf ka oc W0 WN mt wsR d (ev_met wsR.length dfl mt d)
  | 0 => by
    intro mid as h ret h' mc ms hr
    cases hr
  | d + 1 => by
    have ih := ev_met_ok (l := l) (D := D) (ka := ka) (oc := oc) (wsR := wsR) hG hWN hC hc1 hT d
    intro mid as h ret h' mc ms hr y bytes maxL rt code hmt ads tys ws vs sz hS hM
    have hr : (match mt[mid]? with
      | some m => bif Nat.ble (ev_ent as).length m.2.2.1 then ev_run wsR.length dfl (ev_met wsR.length dfl mt d) m.2.2.2.2 m.2.2.2.1 10000000 0 (ev_ent as ++ List.replicate (m.2.2.1 - (ev_ent as).length) 73786976294838206464) [] h 0 0 else none
      | none => none) = some (ret, h', mc, ms) := hr
    rw [hmt] at hr
    dsimp only at hr
    cases hq : Nat.ble (ev_ent as).length maxL
    · rw [hq, cond_false] at hr; cases hr
    · rw [hq, cond_true] at hr
      have hlen := Nat.le_of_ble_eq_true hq
      obtain ⟨hpl, hrow⟩ := hT mid y bytes maxL rt code hmt
      refine Met.ofW (cc := bytes) (maxL := maxL) (ret := rt) hpl rfl ?_
      intro p e s m args below meth c s₁ B hml hv
      obtain ⟨rfl, hsz, hP, hK, hDD, hNw, hCF⟩ := hv
      have hx := B.exec
      have hb := B.bytes
      have hrt := B.returns
      have hts := atoms_spec (ws := Jvm.Cond.code y bytes maxL rt :: W0) B.pre
      have hW0 : ∀ w ∈ W0, w.before vs.toArray s = true := fun w hw => hts w (List.mem_cons_of_mem _ hw)
      have hAll : ∀ w ∈ WN, w.before vs.toArray s = true := by
        intro w hw
        cases hn : ev_isNest w
        · exact hW0 w (hWN w hw hn)
        · exact va_Nw.use (ev_nest_on hn) (hNw w hw hn)
      have hown : s.vm.findClass y.cls = some m.cls := findClass_of_methodNamed B.named
      have hlocks := B.notSynchronized
      have hin : meth.name = y.name := (name_of_methodNamed B.named B.method).1
      have hRA : ∀ (k : Nat) (q : Nat × va_E), wsR[k]? = some q → ¬ va_A ws sz q.1 := by
        intro k q hk hA
        have hk2 : (wsR ++ ws)[k]? = some q := by rw [List.getElem?_append_left (List.getElem?_eq_some_iff.mp hk).1]; exact hk
        rcases hA with ⟨j, e0, hj⟩ | hA
        · have hj2 : (wsR ++ ws)[wsR.length + j]? = some (q.1, e0) := by
            rw [List.getElem?_append_right (Nat.le_add_right _ _), Nat.add_sub_cancel_left]; exact hj
          have h1 := hDD.1 _ _ _ _ hk2 hj2 rfl
          have h2 := (List.getElem?_eq_some_iff.mp hk).1
          omega
        · have h2 := (hP k q hk2).lt
          omega
      have hRO : ev_RO D cl (va_A ws sz) s.heap wsR := by
        intro H1 locs1 hS1 k q hk
        have hk2 : (wsR ++ ws)[k]? = some q := by rw [List.getElem?_append_left (List.getElem?_eq_some_iff.mp hk).1]; exact hk
        exact (hP k q hk2).kept (hS1.2.1 q.1 (hP k q hk2).lt (hRA k q hk))
      rw [lg_entry_eq]
      have hL := ev_entry hS hlen
      have hD0 : va_D (va_A ws sz) ws := hDD.ev_r.self
      exact ev_run_ok (ads0 := ads) (tys0 := tys) (ws0 := ws) (l2 := []) (t2 := []) hx hb hrt hlocks hml rfl hsz hW0 hG hown hC hc1 hCF hRO hRA hDD.ev_l ih hNw (Nat.le_refl _) (Nat.le_refl _) (Nat.le_refl _) (Nat.le_refl _) (hrow (meth.name = "<init>") vs.toArray s hAll (fun q => hin.trans q)) 10000000 0 _ [] h 0 0 ws _ [] s.heap [] hr (by simpa using hL) trivial (by simpa using hM) (by simpa using hK) ⟨hP, hD0, va_S.rf⟩
