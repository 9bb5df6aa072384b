/-! ===== 14: an evaluation in which some methods have a road of their own ===== -/
noncomputable def ev_stepM (nr : Nat) (dfl : Nat → Nat) (mt : List ev_Me) (cf : Nat → List Nat → ev_H → Option ev_A) (mid : Nat) (as : List Nat) (h : ev_H) : Option ev_A := match mt[mid]? with
    | some m => bif Nat.ble (ev_ent as).length m.2.2.1 then ev_run nr dfl cf m.2.2.2.2 m.2.2.2.1 10000000 0 (ev_ent as ++ List.replicate (m.2.2.1 - (ev_ent as).length) 73786976294838206464) [] h 0 0 else none
    | none => none
theorem ev_met_s (nr : Nat) (dfl : Nat → Nat) (mt : List ev_Me) (d mid : Nat) (as : List Nat) (h : ev_H) : ev_met nr dfl mt (d + 1) mid as h = ev_stepM nr dfl mt (ev_met nr dfl mt d) mid as h := rfl
noncomputable def ev_metP (nr : Nat) (dfl : Nat → Nat) (mt : List ev_MeK) (prim : (Nat → List Nat → ev_H → Option ev_A) → Nat → List Nat → ev_H → Option ev_A) (d : Nat) : Nat → List Nat → ev_H → Option ev_A :=
  Nat.rec (fun _ _ _ => none) (fun _ ih mid as h => match prim ih mid as h with
    | some r => some r
    | none => (match ev_gt mt mid with
      | some m => bif Nat.ble (ev_ent as).length m.2.2.1 then ev_runK nr dfl ih m.2.2.2.2 m.2.2.2.1 10000000 0 (ev_ent as ++ List.replicate (m.2.2.1 - (ev_ent as).length) 73786976294838206464) [] h 0 0 else none
      | none => none)) d
theorem ev_metP_ok {nr : Nat} {dfl : Nat → Nat} {mt : List ev_MeK} {prim : (Nat → List Nat → ev_H → Option ev_A) → Nat → List Nat → ev_H → Option ev_A} (hk : ∀ (k : Nat) (m : ev_MeK), mt[k]? = some m → ev_ckK m.2.2.2.2 = true)
    (hp : ∀ c1 c2 : Nat → List Nat → ev_H → Option ev_A, (∀ mid as h r, c1 mid as h = some r → c2 mid as h = some r) → ∀ mid as h r, prim c1 mid as h = some r → ev_stepM nr dfl (mt.map ev_unM) c2 mid as h = some r) : ∀ (d mid : Nat) (as : List Nat) (h : ev_H) (r : ev_A), ev_metP nr dfl mt prim d mid as h = some r → ev_met nr dfl (mt.map ev_unM) d mid as h = some r
  | 0, _, _, _, _, h => by cases h
  | d + 1, mid, as, h, r, hr => by
    have ih := ev_metP_ok (nr := nr) (dfl := dfl) (mt := mt) (prim := prim) hk hp d
    have hr : (match prim (ev_metP nr dfl mt prim d) mid as h with
      | some r => some r
      | none => (match ev_gt mt mid with
        | some m => bif Nat.ble (ev_ent as).length m.2.2.1 then ev_runK nr dfl (ev_metP nr dfl mt prim d) m.2.2.2.2 m.2.2.2.1 10000000 0 (ev_ent as ++ List.replicate (m.2.2.1 - (ev_ent as).length) 73786976294838206464) [] h 0 0 else none
        | none => none)) = some r := hr
    rw [ev_met_s]
    cases hq : prim (ev_metP nr dfl mt prim d) mid as h with
    | some r0 =>
      rw [hq] at hr
      cases hr
      exact hp _ _ ih mid as h r hq
    | none =>
      rw [hq] at hr
      dsimp only at hr
      rw [ev_gt_ok] at hr
      unfold ev_stepM
      rw [List.getElem?_map]
      cases hm : mt[mid]? with
      | none => rw [hm] at hr; cases hr
      | some m =>
        rw [hm] at hr
        dsimp only at hr
        show (bif Nat.ble (ev_ent as).length m.2.2.1 then ev_run nr dfl (ev_met nr dfl (mt.map ev_unM) d) (ev_un m.2.2.2.2) m.2.2.2.1 10000000 0 (ev_ent as ++ List.replicate (m.2.2.1 - (ev_ent as).length) 73786976294838206464) [] h 0 0 else none) = some r
        cases hb : Nat.ble (ev_ent as).length m.2.2.1
        · rw [hb, cond_false] at hr; cases hr
        · rw [hb, cond_true] at hr
          rw [cond_true]
          exact ev_runK_ok (fun mid as h r q => ih mid as h r q) (hk mid m hm) 10000000 0 _ _ _ _ _ hr
