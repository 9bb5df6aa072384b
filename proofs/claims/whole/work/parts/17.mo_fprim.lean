/-! ===== 17: forget() by a road of its own ===== -/
abbrev fl_codeK : List (List ev_KI) := mo_mX12_forget.2.2.2.2
noncomputable def fl_after (c : Nat → List Nat → ev_H → Option ev_A) (h1 : ev_H) (nc ns F A : Nat) : Option ev_A :=
  ev_runK 0 mo_dfl c fl_codeK none 1000000 139 [36893488147419103232, 4294967295] [] (fl_h h1 (ev_at F 95) F A 95000) nc ns
noncomputable def fl_mid (c : Nat → List Nat → ev_H → Option ev_A) (L st : List Nat) (h1 : ev_H) (nc ns : Nat) : Option ev_A :=
  match L, st with
  | [a, b], [] => bif Nat.beq a 36893488147419103232 && Nat.beq b 94999 then
      (match h1[0]? with
      | some (k0, l0, F) => bif Nat.beq k0 0 && (Nat.beq l0 160 && (Nat.beq (ev_at F 96) 0 && (ev_isR (ev_at F 95) && not (Nat.beq (ev_at F 95 - 36893488147419103232) 0)))) then
          (match ev_o h1 (ev_at F 95) with
          | some (k, l, A) => bif Nat.beq k 1000 && Nat.beq l 95000 then fl_after c h1 nc ns F A else none
          | none => none)
        else none
      | none => none)
    else none
  | _, _ => none
noncomputable def fl_prim (c : Nat → List Nat → ev_H → Option ev_A) (mid : Nat) (as : List Nat) (h : ev_H) : Option ev_A :=
  bif Nat.beq mid 30 then
    (match as with
    | [x] => bif Nat.beq x 36893488147419103232 then
        (match ev_runU 0 mo_dfl c fl_codeK 139 1000000 0 [36893488147419103232, 73786976294838206464] [] h 0 0 with
        | some ((_, L, st), h1, nc, ns) => fl_mid c L st h1 nc ns
        | none => none)
      else none
    | _ => none)
  else none
theorem fl_ckK : ev_ckK fl_codeK = true := mo_kkAll 30 mo_mX12_forget rfl
theorem fl_stepM (c2 : Nat → List Nat → ev_H → Option ev_A) (h : ev_H) : ev_stepM 0 mo_dfl (mo_mtK.map ev_unM) c2 30 [36893488147419103232] h = ev_run 0 mo_dfl c2 (ev_un fl_codeK) none 10000000 0 [36893488147419103232, 73786976294838206464] [] h 0 0 := by
  unfold ev_stepM
  have e1 : (mo_mtK.map ev_unM)[30]? = some (ev_unM mo_mX12_forget) := by
    rw [List.getElem?_map]
    rfl
  have e2 : ev_ent [36893488147419103232] = [36893488147419103232] := rfl
  have e3 : (ev_unM mo_mX12_forget).2.2.1 = 2 := rfl
  have e4 : (ev_unM mo_mX12_forget).2.2.2.1 = none := rfl
  have e5 : (ev_unM mo_mX12_forget).2.2.2.2 = ev_un fl_codeK := rfl
  rw [e1]
  dsimp only
  rw [e2, e3, e4, e5]
  have e6 : Nat.ble [36893488147419103232].length 2 = true := rfl
  have e7 : [36893488147419103232] ++ List.replicate (2 - [36893488147419103232].length) 73786976294838206464 = [36893488147419103232, 73786976294838206464] := rfl
  rw [e6, e7, cond_true]
theorem fl_prim_ok (c1 c2 : Nat → List Nat → ev_H → Option ev_A) (hcf : ∀ mid as h r, c1 mid as h = some r → c2 mid as h = some r) (mid : Nat) (as : List Nat) (h : ev_H) (r : ev_A) (hr : fl_prim c1 mid as h = some r) : ev_stepM 0 mo_dfl (mo_mtK.map ev_unM) c2 mid as h = some r := by
  unfold fl_prim at hr
  cases hm : Nat.beq mid 30
  · rw [hm, cond_false] at hr; cases hr
  rw [hm, cond_true] at hr
  have hm2 := Nat.eq_of_beq_eq_true hm
  subst hm2
  split at hr
  · rename_i x
    cases hx : Nat.beq x 36893488147419103232
    · rw [hx, cond_false] at hr; cases hr
    rw [hx, cond_true] at hr
    have hx2 := Nat.eq_of_beq_eq_true hx
    subst hx2
    split at hr
    · rename_i pc L st h1 nc ns hu
      obtain ⟨k, hk, hg, hpc⟩ := ev_runU_ok hcf fl_ckK none _ _ _ _ _ _ _ hu
      dsimp only at hpc
      subst hpc
      unfold fl_mid at hr
      split at hr
      · rename_i a b
        cases hab : (Nat.beq a 36893488147419103232 && Nat.beq b 94999)
        · rw [hab, cond_false] at hr; cases hr
        rw [hab, cond_true] at hr
        simp only [Bool.and_eq_true] at hab
        have ha := Nat.eq_of_beq_eq_true hab.1
        have hb := Nat.eq_of_beq_eq_true hab.2
        subst ha
        subst hb
        split at hr
        · rename_i k0 l0 F h0
          cases hq : (Nat.beq k0 0 && (Nat.beq l0 160 && (Nat.beq (ev_at F 96) 0 && (ev_isR (ev_at F 95) && not (Nat.beq (ev_at F 95 - 36893488147419103232) 0)))))
          · rw [hq, cond_false] at hr; cases hr
          rw [hq, cond_true] at hr
          simp only [Bool.and_eq_true] at hq
          obtain ⟨q1, q2, q3, q4, q5⟩ := hq
          have q1 := Nat.eq_of_beq_eq_true q1
          have q2 := Nat.eq_of_beq_eq_true q2
          have q3 := Nat.eq_of_beq_eq_true q3
          subst q1
          subst q2
          have q6 : ev_at F 95 - 36893488147419103232 ≠ 0 := fun e => by rw [e] at q5; cases q5
          split at hr
          · rename_i k1 l1 A hA
            cases hz : (Nat.beq k1 1000 && Nat.beq l1 95000)
            · rw [hz, cond_false] at hr; cases hr
            rw [hz, cond_true] at hr
            simp only [Bool.and_eq_true] at hz
            have z1 := Nat.eq_of_beq_eq_true hz.1
            have z2 := Nat.eq_of_beq_eq_true hz.2
            subst z1
            subst z2
            unfold fl_after at hr
            have e := ev_runK_ok hcf fl_ckK _ _ _ _ _ _ _ hr
            have hl := fl_loop (cf := c2) (nc := nc) (ns := ns) (h := h1) (F := F) (A := A) (rA := ev_at F 95) h0 rfl q4 q6 hA q3 95000 (Nat.le_refl _)
            have hall := hg.tr hl
            have hend := ev_goes.end (N := 10000000) hall e (by omega)
            rw [fl_stepM]
            exact hend
          · cases hr
        · cases hr
      · cases hr
    · cases hr
  · cases hr
