/-! ===== 12: the reference's constructor: its contract ===== -/
abbrev mo_W0 : List Jvm.Cond := ev_W1 mo_mk mo_cl mo_more
abbrev mo_WN : List Jvm.Cond := ev_W0 mo_mk mo_cl mo_more
set_option maxRecDepth 100000 in
theorem mo_good : ∀ w ∈ mo_W0, goodWord w = true := List.all_eq_true.mp (by decide +kernel)
/-- names that differ, by a check over the list -/
theorem ev_nodup {T : u_T} {N : Nat} (h : (List.range N).all (fun a => (List.range a).all (fun b => decide ((T a).2.1 ≠ (T b).2.1))) = true) : ∀ a, a < N → ∀ b, b < N → a ≠ b → (T a).2.1 ≠ (T b).2.1 := by
  intro a ha b hb hab
  rcases Nat.lt_or_ge b a with q | q
  · exact of_decide_eq_true (List.all_eq_true.mp (List.all_eq_true.mp h a (List.mem_range.mpr ha)) b (List.mem_range.mpr q))
  · have q2 : a < b := by omega
    exact fun e => of_decide_eq_true (List.all_eq_true.mp (List.all_eq_true.mp h b (List.mem_range.mpr hb)) a (List.mem_range.mpr q2)) e.symm
set_option maxRecDepth 100000 in
theorem mo_nd : (List.range 160).all (fun a => (List.range a).all (fun b => decide ((mo_TX12 a).2.1 ≠ (mo_TX12 b).2.1))) = true := by decide +kernel
set_option maxRecDepth 100000 in
theorem mo_ckC : ev_ckC mo_tyf 0 (mo_RX12, mo_TX12, 160) = true := by decide +kernel
theorem mo_cl1 {k : Nat} {c : vw_C} (h : mo_cl[k]? = some c) : k = 0 ∧ c = (mo_RX12, mo_TX12, 160) := by
  match k, h with
  | 0, h => exact ⟨rfl, (Option.some.inj h).symm⟩
  | n + 1, h =>
    have := (List.getElem?_eq_some_iff.mp h).1
    have e : mo_cl.length = 1 := rfl
    omega
theorem mo_Cls : ev_Cls mo_W0 mo_cl mo_tyf := ev_Cls_of (by decide) (fun k c h => by obtain ⟨rfl, rfl⟩ := mo_cl1 h; exact mo_ckC) (fun k c h => by obtain ⟨rfl, rfl⟩ := mo_cl1 h; exact ev_nodup mo_nd)
theorem mo_ckAll : ∀ (k : Nat) (m : ev_Mk), mo_mk[k]? = some m → ev_ckMe mo_more mo_cl mo_dfl mo_tyf mo_mk m = true := by
  intro k m h
  match k, h with
  | 0, h => exact (Option.some.inj h) ▸ mo_ck_init
  | 1, h => exact (Option.some.inj h) ▸ mo_ck_internBuilt
  | 2, h => exact (Option.some.inj h) ▸ mo_ck_internTypes
  | 3, h => exact (Option.some.inj h) ▸ mo_ck_internNames
  | 4, h => exact (Option.some.inj h) ▸ mo_ck_hidden
  | 5, h => exact (Option.some.inj h) ▸ mo_ck_word
  | 6, h => exact (Option.some.inj h) ▸ mo_ck_intern
  | 7, h => exact (Option.some.inj h) ▸ mo_ck_hashOf
  | 8, h => exact (Option.some.inj h) ▸ mo_ck_compile
  | 9, h => exact (Option.some.inj h) ▸ mo_ck_forgetFrom
  | 10, h => exact (Option.some.inj h) ▸ mo_ck_readTokens
  | 11, h => exact (Option.some.inj h) ▸ mo_ck_skip
  | 12, h => exact (Option.some.inj h) ▸ mo_ck_at
  | 13, h => exact (Option.some.inj h) ▸ mo_ck_readText
  | 14, h => exact (Option.some.inj h) ▸ mo_ck_emit
  | 15, h => exact (Option.some.inj h) ▸ mo_ck_later
  | 16, h => exact (Option.some.inj h) ▸ mo_ck_goOn
  | 17, h => exact (Option.some.inj h) ▸ mo_ck_readBlock
  | 18, h => exact (Option.some.inj h) ▸ mo_ck_isWord
  | 19, h => exact (Option.some.inj h) ▸ mo_ck_beginsStatement
  | 20, h => exact (Option.some.inj h) ▸ mo_ck_isSign
  | 21, h => exact (Option.some.inj h) ▸ mo_ck_goOnStatement
  | 22, h => exact (Option.some.inj h) ▸ mo_ck_reload
  | 23, h => exact (Option.some.inj h) ▸ mo_ck_fill
  | 24, h => exact (Option.some.inj h) ▸ mo_ck_set
  | 25, h => exact (Option.some.inj h) ▸ mo_ck_placeOf
  | 26, h => exact (Option.some.inj h) ▸ mo_ck_keyHash
  | 27, h => exact (Option.some.inj h) ▸ mo_ck_object
  | 28, h => exact (Option.some.inj h) ▸ mo_ck_how
  | 29, h => exact (Option.some.inj h) ▸ mo_ck_openFrame
  | 30, h => exact (Option.some.inj h) ▸ mo_ck_forget
  | n + 31, h =>
    have := (List.getElem?_eq_some_iff.mp h).1
    have e : mo_mk.length = 31 := rfl
    omega
theorem mo_kkAll : ∀ (k : Nat) (m : ev_MeK), mo_mtK[k]? = some m → ev_ckK m.2.2.2.2 = true := by
  intro k m h
  match k, h with
  | 0, h => exact (Option.some.inj h) ▸ mo_kk_init
  | 1, h => exact (Option.some.inj h) ▸ mo_kk_internBuilt
  | 2, h => exact (Option.some.inj h) ▸ mo_kk_internTypes
  | 3, h => exact (Option.some.inj h) ▸ mo_kk_internNames
  | 4, h => exact (Option.some.inj h) ▸ mo_kk_hidden
  | 5, h => exact (Option.some.inj h) ▸ mo_kk_word
  | 6, h => exact (Option.some.inj h) ▸ mo_kk_intern
  | 7, h => exact (Option.some.inj h) ▸ mo_kk_hashOf
  | 8, h => exact (Option.some.inj h) ▸ mo_kk_compile
  | 9, h => exact (Option.some.inj h) ▸ mo_kk_forgetFrom
  | 10, h => exact (Option.some.inj h) ▸ mo_kk_readTokens
  | 11, h => exact (Option.some.inj h) ▸ mo_kk_skip
  | 12, h => exact (Option.some.inj h) ▸ mo_kk_at
  | 13, h => exact (Option.some.inj h) ▸ mo_kk_readText
  | 14, h => exact (Option.some.inj h) ▸ mo_kk_emit
  | 15, h => exact (Option.some.inj h) ▸ mo_kk_later
  | 16, h => exact (Option.some.inj h) ▸ mo_kk_goOn
  | 17, h => exact (Option.some.inj h) ▸ mo_kk_readBlock
  | 18, h => exact (Option.some.inj h) ▸ mo_kk_isWord
  | 19, h => exact (Option.some.inj h) ▸ mo_kk_beginsStatement
  | 20, h => exact (Option.some.inj h) ▸ mo_kk_isSign
  | 21, h => exact (Option.some.inj h) ▸ mo_kk_goOnStatement
  | 22, h => exact (Option.some.inj h) ▸ mo_kk_reload
  | 23, h => exact (Option.some.inj h) ▸ mo_kk_fill
  | 24, h => exact (Option.some.inj h) ▸ mo_kk_set
  | 25, h => exact (Option.some.inj h) ▸ mo_kk_placeOf
  | 26, h => exact (Option.some.inj h) ▸ mo_kk_keyHash
  | 27, h => exact (Option.some.inj h) ▸ mo_kk_object
  | 28, h => exact (Option.some.inj h) ▸ mo_kk_how
  | 29, h => exact (Option.some.inj h) ▸ mo_kk_openFrame
  | 30, h => exact (Option.some.inj h) ▸ mo_kk_forget
  | n + 31, h =>
    have := (List.getElem?_eq_some_iff.mp h).1
    have e : mo_mtK.length = 31 := rfl
    omega
theorem mo_Tab : ev_Tab mo_W0 mo_WN mo_cl mo_dfl mo_tyf (mo_mk.map Prod.fst) := ev_Tab_of mo_ckAll
theorem mo_mt_eq : mo_mk.map Prod.fst = mo_mtK.map ev_unM := rfl
/-- an object as 'new' leaves it -/
theorem ev_blank {oc : String} {tys : List (ClassId × FieldType)} {ads : List Nat} {dfl : Nat → Nat} {tyf : Nat → Nat → FieldType} {a b : Nat} (ha : a < 1000) (h : (List.range b).all (ev_ckT tyf dfl a) = true) : ev_E oc tys ads (a, b, dfl a) (.inr (a, (List.range b).map (fun j => defaultValue (tyf a j)))) := by
  refine Or.inl ⟨ha, _, rfl, by simp, fun j hj => ?_⟩
  refine ⟨defaultValue (tyf a j), by simp [show j < b from hj], ?_⟩
  show ev_v _ (ev_at (dfl a) j) _
  have h6 := List.all_eq_true.mp h j (List.mem_range.mpr hj)
  simp only [ev_ckT, Bool.or_eq_true, Bool.and_eq_true] at h6
  rcases h6 with (h6 | h6) | h6
  · rw [Nat.eq_of_beq_eq_true h6.2]
    have c1 := Nat.eq_of_beq_eq_true h6.1
    cases hty : tyf a j <;> rw [hty] at c1 <;> simp [ev_tyc] at c1
    exact .long (n := 0) (by decide)
  · rw [Nat.eq_of_beq_eq_true h6.2]
    have c1 := Nat.eq_of_beq_eq_true h6.1
    cases hty : tyf a j <;> rw [hty] at c1 <;> simp [ev_tyc] at c1
    · exact .null
    · exact .null
  · rw [Nat.eq_of_beq_eq_true h6.2]
    have c1 := Nat.blt_eq.mp h6.1
    cases hty : tyf a j <;> rw [hty] at c1 <;> simp [ev_tyc] at c1
    · exact .int (x := 0) (by decide)
    · exact .int (x := 0) (by decide)
    · exact .int (x := 0) (by decide)
/-- what the constructor leaves: the evaluator's answer -/
noncomputable def mo_R1 : Option ev_A := ev_metK 0 mo_dfl mo_mtK 8 0 [36893488147419103232] [(0, 160, mo_dfl 0)]
def ev_isV (r : Option ev_A) (kc ks : Nat) : Bool := match r with
  | some (none, _, mc, ms) => Nat.ble mc kc && Nat.ble ms ks
  | _ => false
set_option maxRecDepth 100000 in
theorem mo_R1_ok : ev_isV mo_R1 200 2000000 = true := by decide +kernel
set_option maxRecDepth 100000 in
theorem mo_ckT0 : (List.range 160).all (ev_ckT mo_tyf mo_dfl 0) = true := by decide +kernel
theorem ev_isV_ok {r : Option ev_A} {kc ks : Nat} (h : ev_isV r kc ks = true) : ∃ hh mc ms, r = some (none, hh, mc, ms) ∧ mc ≤ kc ∧ ms ≤ ks := by
  unfold ev_isV at h
  split at h
  · rename_i hh mc ms
    simp only [Bool.and_eq_true] at h
    exact ⟨hh, mc, ms, rfl, Nat.le_of_ble_eq_true h.1, Nat.le_of_ble_eq_true h.2⟩
  · cases h
/-- the fields of a new object of the reference -/
def mo_new : List Value := (List.range 160).map (fun j => defaultValue (mo_YX12 j))
/-- THE CONTRACT of the reference's constructor: from a blank object at q it comes to a world that the evaluator's heap hh pictures -/
theorem mo_init_met : ∃ (hh : ev_H) (mc ms : Nat), mo_R1 = some (none, hh, mc, ms) ∧ mc ≤ 200 ∧ ms ≤ 2000000 ∧ ∀ (l : Launch) (D : va_G) (oc : String) (tys : List (ClassId × FieldType)) (q sz : Nat),
    Met l mo_yX12_init (Jvm.Cond.code mo_yX12_init prog_14_method_1_code 2 none :: mo_W0) { frames := 8, cells := mc, slots := ms, locals := 64 * 8 } (ev_Pc D mo_cl tys mo_WN [] [(q, .inr (0, mo_new))] sz [.ref q]) (ev_Qc D mo_cl oc [] [(q, .inr (0, mo_new))] tys [q] sz none hh) mc ms (va_A [(q, .inr (0, mo_new))] sz) := by
  obtain ⟨hh, mc, ms, h1, h2, h3⟩ := ev_isV_ok mo_R1_ok
  refine ⟨hh, mc, ms, h1, h2, h3, fun l D oc tys q sz => ?_⟩
  have hm := ev_metK_ok mo_kkAll 8 0 _ _ h1
  rw [← mo_mt_eq] at hm
  have hcal := ev_met_ok (l := l) (D := D) (oc := oc) (wsR := []) mo_good (fun w hw hn => ev_W1_of hw hn) mo_Cls mo_Tab 8
  refine hcal 0 _ _ none hh mc ms hm mo_yX12_init prog_14_method_1_code 2 none (ev_un mo_mX12_init.2.2.2.2) rfl [q] tys [(q, .inr (0, mo_new))] [.ref q] sz ⟨?_, trivial⟩ ?_
  · exact Or.inr (Or.inr (Or.inl ⟨0, q, by decide, rfl, rfl, rfl⟩))
  · refine ⟨rfl, rfl, fun k x hx => ?_⟩
    match k, hx with
    | 0, hx =>
      cases hx
      exact ⟨q, _, rfl, rfl, ev_blank (by decide) mo_ckT0⟩
    | n + 1, hx => simp at hx
