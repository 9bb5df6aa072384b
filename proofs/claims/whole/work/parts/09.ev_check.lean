/-! ===== 09: the tables checked by evaluation ===== -/
abbrev ev_Mk : Type := ev_Me × Nat
/-- a method's own words: kind 0 called on a receiver, 1 static, 2 a constructor -/
def ev_blk (m : ev_Mk) : List Jvm.Cond := [.code m.1.1 m.1.2.1 m.1.2.2.1 m.1.2.2.2.1, .initialized m.1.1.cls] ++ (match m.2 with
  | 0 => [.instanceMethod m.1.1, .selects m.1.1.cls m.1.1 m.1.1]
  | 1 => [.static m.1.1]
  | _ => [.instanceMethod m.1.1])
def ev_W0 (mk : List ev_Mk) (cl : List vw_C) (more : List Jvm.Cond) : List Jvm.Cond := mk.flatMap ev_blk ++ (cl.flatMap (fun c => u_ws c.1 c.2.1 c.2.2) ++ more)
/-- the words that a contract names: all but the links between nest mates -/
def ev_W1 (mk : List ev_Mk) (cl : List vw_C) (more : List Jvm.Cond) : List Jvm.Cond := (ev_W0 mk cl more).filter (fun w => !ev_isNest w)
theorem ev_W1_of {mk : List ev_Mk} {cl : List vw_C} {more : List Jvm.Cond} {w : Jvm.Cond} (h : w ∈ ev_W0 mk cl more) (hn : ev_isNest w = false) : w ∈ ev_W1 mk cl more := List.mem_filter.mpr ⟨h, by rw [hn]; rfl⟩
theorem ev_inB {mk : List ev_Mk} {cl : List vw_C} {more : List Jvm.Cond} {a : Nat} {m : ev_Mk} (h : mk[a]? = some m) {w : Jvm.Cond} (hw : w ∈ ev_blk m) : w ∈ ev_W0 mk cl more := List.mem_append_left _ (List.mem_flatMap.mpr ⟨m, List.mem_of_getElem? h, hw⟩)
theorem ev_inM {mk : List ev_Mk} {cl : List vw_C} {more : List Jvm.Cond} {k : Nat} {w : Jvm.Cond} (h : more[k]? = some w) : w ∈ ev_W0 mk cl more := List.mem_append_right _ (List.mem_append_right _ (List.mem_of_getElem? h))
theorem ev_inC {mk : List ev_Mk} {cl : List vw_C} {more : List Jvm.Cond} {k : Nat} {c : vw_C} (h : cl[k]? = some c) {w : Jvm.Cond} (hw : w ∈ u_ws c.1 c.2.1 c.2.2) : w ∈ ev_W0 mk cl more := List.mem_append_right _ (List.mem_append_left _ (List.mem_flatMap.mpr ⟨c, List.mem_of_getElem? h, hw⟩))
def ev_ckF (more : List Jvm.Cond) (own : String) (idx : Nat) (f : String × String × String × Bool) (w : Nat) : Bool := match more[w]? with
  | some (.fieldLink o i c n d) => decide (o = own) && Nat.beq i idx && decide (c = f.1) && decide (n = f.2.1) && decide (d = f.2.2.1)
  | some (.fieldLinkNest o i c n d _) => decide (o = own) && Nat.beq i idx && decide (c = f.1) && decide (n = f.2.1) && decide (d = f.2.2.1)
  | _ => false
def ev_isFL (more : List Jvm.Cond) (w : Nat) : Bool := match more[w]? with
  | some (.fieldLink _ _ _ _ _) => true
  | _ => false
def ev_ckM (more : List Jvm.Cond) (own : String) (idx : Nat) (y : MethodName) (w : Nat) : Bool := match more[w]? with
  | some (.methodLink o i x) => decide (o = own) && Nat.beq i idx && decide (x = y)
  | some (.methodLinkNest o i x _) => decide (o = own) && Nat.beq i idx && decide (x = y)
  | _ => false
def ev_ckB (more : List Jvm.Cond) (own : String) (idx : Nat) (m : ev_Me) (n w : Nat) : Bool :=
  Nat.ble m.2.2.1 45 && decide (m.1.cls ≠ "java/lang/invoke/MethodHandle") && decide (m.1.cls ≠ "java/lang/invoke/VarHandle") && decide ((parseMethodDescriptor m.1.desc).map (fun d => d.parameters.length) = some n) && ev_ckM more own idx m.1 w
def ev_ckT (tyf : Nat → Nat → FieldType) (dfl : Nat → Nat) (a j : Nat) : Bool :=
  (Nat.beq (ev_tyc (tyf a j)) 10 && Nat.beq (ev_at (dfl a) j) 18446744073709551616) || (Nat.beq (ev_tyc (tyf a j)) 20 && Nat.beq (ev_at (dfl a) j) 55340232221128654848) || (Nat.blt (ev_tyc (tyf a j)) 3 && Nat.beq (ev_at (dfl a) j) 0)
def ev_ckI (more : List Jvm.Cond) (cl : List vw_C) (dfl : Nat → Nat) (tyf : Nat → Nat → FieldType) (mk : List ev_Mk) (own : String) (ini : Bool) (i : Instr) (a b t w : Nat) : Bool := match i with
  | .getfield idx => (match cl[a]? with
    | some c => Nat.blt b c.2.2 && ev_ckF more own idx (c.2.1 b) w
    | none => false)
  | .putfield idx => (match cl[a]? with
    | some c => Nat.blt b c.2.2 && ev_ckF more own idx (c.2.1 b) w && (match parseFieldDescriptor (c.2.1 b).2.2.1 with
        | some ty => Nat.beq (ev_tyc ty) t
        | none => false) && (!(c.2.1 b).2.2.2 || (ini && decide ((c.2.1 b).1 = own) && ev_isFL more w))
    | none => false)
  | .newarray atype => decide (newarray.typeOf atype = ev_ty "" a) && Nat.ble a 10 && decide (more[w]? = some (.arrayClass (newarray.typeOf atype)))
  | .new idx => (match cl[a]? with
    | some c => Nat.beq c.2.2 b && decide (more[w]? = some (.classLink own idx c.1)) && decide (more[w + 1]? = some (.instantiable c.1 b)) && decide (more[w + 2]? = some (.initialized c.1)) && (List.range b).all (ev_ckT tyf dfl a)
    | none => false)
  | .ldc idx => !(ev_isI a) || decide (more[w]? = some (.constant own idx (nI a)))
  | .ldc_w idx => decide (more[w]? = some (.constant own idx (nI a)))
  | .ldc2_w idx => decide (more[w]? = some (.constantLong own idx (lN a)))
  | .invokespecial idx => bif Nat.beq b 0 then decide (more[w]? = some (.methodLink own idx objectInit)) && decide (more[w + 1]? = some (.instanceMethod objectInit)) && decide (more[w + 2]? = some (.code objectInit ⟨#[0xb1]⟩ 1 none))
    else (match mk[a]? with
    | some m => Nat.beq m.2 2 && decide (m.1.2.2.2.1 = none) && decide (m.1.1.name = "<init>") && ev_ckB more own idx m.1 (b - 1) w
    | none => false)
  | .invokestatic idx => (match mk[a]? with
    | some m => Nat.beq m.2 1 && ev_ckB more own idx m.1 b w
    | none => false)
  | .invokevirtual idx => (match mk[a]?, cl[t]? with
    | some m, some c => Nat.beq m.2 0 && decide (c.1 = m.1.1.cls) && Nat.blt t 1000 && Nat.blt 0 b && ev_ckB more own idx m.1 (b - 1) w
    | _, _ => false)
  | _ => true
/-- the further rules' words -/
def ev_ckKK (more : List Jvm.Cond) (cl : List vw_C) (dfl : Nat → Nat) (tyf : Nat → Nat → FieldType) (oc own : String) (i : Instr) (a b t w : Nat) : Bool := match i with
  | .getfield idx => !(Nat.beq a 1 && Nat.blt b 2) || decide (more[w]? = some (.fieldLink own idx "java/lang/String" (bif Nat.beq b 0 then "value" else "coder") (bif Nat.beq b 0 then "[B" else "B")))
  | .ldc idx => !(ev_isK a) || (decide (own = ev_kOwn tyf (a - 92233720368547758080)) && Nat.beq idx (dfl (4000 + (a - 92233720368547758080))))
  | .getstatic idx => (!(Nat.beq a 1) || decide (more[w]? = some (.fieldLink own idx "java/lang/String" "COMPACT_STRINGS" "Z"))) && (!(ev_isX a) || decide (more[w]? = some (.fieldLink own idx "jdk/internal/util/Preconditions" "SIOOBE_FORMATTER" "Ljava/util/function/BiFunction;")))
  | .invokestatic idx => (!(Nat.beq a 998) || (decide (more[w]? = some (.methodLink own idx Lib.Math.min.name)) && (decide (more[w + 1]? = some (.static Lib.Math.min.name)) && (decide (more[w + 2]? = some (.initialized "java/lang/Math")) && decide (more[w + 3]? = some (.code Lib.Math.min.name Lib.Math.min.code 2 (some .int))))))) &&
      ((!(Nat.beq a 997) || (decide (more[w]? = some (.methodLink own idx Lib.Math.max.name)) && (decide (more[w + 1]? = some (.static Lib.Math.max.name)) && (decide (more[w + 2]? = some (.initialized "java/lang/Math")) && decide (more[w + 3]? = some (.code Lib.Math.max.name Lib.Math.max.code 2 (some .int))))))) &&
      (!(Nat.beq a 999) || (decide (more[w]? = some (.methodLink own idx arraycopyName)) && (decide (more[w + 1]? = some (.native arraycopyName)) && (decide (more[w + 2]? = some (.static arraycopyName)) && decide (more[w + 3]? = some (.initialized "java/lang/System")))))))
  | .new idx => !(Nat.beq t 1) || (match cl[a]?, cl[1]? with
    | some c, some c1 => decide (c.1 = c1.1) && (Nat.beq c.2.2 b && (Nat.beq c1.2.2 2 && (Nat.ble 2 b && ((List.range 2).all (fun k => decide ((c.2.1 k).1 = (c1.2.1 k).1) && (decide ((c.2.1 k).2.1 = (c1.2.1 k).2.1) && decide ((c.2.1 k).2.2.1 = (c1.2.1 k).2.2.1))) && (decide (more[w]? = some (.classLink own idx c.1)) && (decide (more[w + 1]? = some (.instantiable c.1 b)) && (decide (more[w + 2]? = some (.initialized c.1)) && (List.range 2).all (fun j => (Nat.beq (ev_tyc (tyf a j)) 20 && Nat.beq (ev_at (dfl 1) j) 55340232221128654848) || (Nat.blt (ev_tyc (tyf a j)) 3 && Nat.beq (ev_at (dfl 1) j) 0)))))))))
    | _, _ => false)
  | .anewarray idx => decide (more[w]? = some (.classLink own idx oc)) && decide (ev_kOc tyf = oc)
  | .aastore => (match cl[a]? with
    | some c => decide (c.1 = oc)
    | none => false)
  | _ => true
def ev_ck (more : List Jvm.Cond) (cl : List vw_C) (dfl : Nat → Nat) (tyf : Nat → Nat → FieldType) (mk : List ev_Mk) (oc own : String) (ini : Bool) (cc : ByteArray) (x : ev_I) : Bool :=
  decide (decode cc x.1 = .ok (x.2.1, ev_len x.2.1 x.2.2.1)) && ((ev_pre x.2.1 x.2.2.2.1 x.2.2.2.2.2.1 || ev_ckI more cl dfl tyf mk own ini x.2.1 x.2.2.2.1 x.2.2.2.2.1 x.2.2.2.2.2.1 x.2.2.2.2.2.2) && ev_ckKK more cl dfl tyf oc own x.2.1 x.2.2.2.1 x.2.2.2.2.1 x.2.2.2.2.2.1 x.2.2.2.2.2.2)
def ev_ckMe (more : List Jvm.Cond) (cl : List vw_C) (dfl : Nat → Nat) (tyf : Nat → Nat → FieldType) (mk : List ev_Mk) (oc : String) (m : ev_Mk) : Bool :=
  plainName m.1.1.cls && m.1.2.2.2.2.all (fun l => l.all (ev_ck more cl dfl tyf mk oc m.1.1.cls (decide (m.1.1.name = "<init>")) m.1.2.1))
section EVK
variable {more : List Jvm.Cond} {cl : List vw_C} {dfl : Nat → Nat} {tyf : Nat → Nat → FieldType} {mk : List ev_Mk} {own : String} {args : Array Value} {s : State}
theorem ev_ckF_ok (hW : ∀ w ∈ ev_W0 mk cl more, w.before args s = true) {idx w : Nat} {f : String × String × String × Bool} (h : ev_ckF more own idx f w = true) :
    ((Jvm.Cond.fieldLink own idx f.1 f.2.1 f.2.2.1).before args s = true ∨ ∃ host, (Jvm.Cond.fieldLinkNest own idx f.1 f.2.1 f.2.2.1 host).before args s = true) ∧ (ev_isFL more w = true → (Jvm.Cond.fieldLink own idx f.1 f.2.1 f.2.2.1).before args s = true) := by
  unfold ev_ckF at h
  unfold ev_isFL
  split at h
  · rename_i o i c n d hm
    simp only [Bool.and_eq_true, decide_eq_true_eq] at h
    obtain ⟨⟨⟨⟨h1, h2⟩, h3⟩, h4⟩, h5⟩ := h
    obtain rfl := Nat.eq_of_beq_eq_true h2
    rw [← h1, ← h3, ← h4, ← h5]
    exact ⟨Or.inl (hW _ (ev_inM hm)), fun _ => hW _ (ev_inM hm)⟩
  · rename_i o i c n d host hm
    simp only [Bool.and_eq_true, decide_eq_true_eq] at h
    obtain ⟨⟨⟨⟨h1, h2⟩, h3⟩, h4⟩, h5⟩ := h
    obtain rfl := Nat.eq_of_beq_eq_true h2
    rw [← h1, ← h3, ← h4, ← h5]
    exact ⟨Or.inr ⟨host, hW _ (ev_inM hm)⟩, fun q => by rw [hm] at q; cases q⟩
  · cases h
theorem ev_ckB_ok (hW : ∀ w ∈ ev_W0 mk cl more, w.before args s = true) {idx n w a : Nat} {m : ev_Mk} (hm : mk[a]? = some m) (h : ev_ckB more own idx m.1 n w = true) : ev_lkB (ev_W1 mk cl more) args s own idx m.1.1 m.1.2.1 m.1.2.2.1 m.1.2.2.2.1 n := by
  unfold ev_ckB at h
  simp only [Bool.and_eq_true, decide_eq_true_eq] at h
  obtain ⟨⟨⟨⟨h1, h2⟩, h3⟩, h4⟩, h5⟩ := h
  refine ⟨Nat.le_of_ble_eq_true h1, ev_W1_of (ev_inB hm (by simp [ev_blk])) rfl, hW _ (ev_inB hm (by simp [ev_blk])), ⟨h2, h3, h4⟩, ?_⟩
  unfold ev_ckM at h5
  split at h5
  · rename_i o i x hx
    simp only [Bool.and_eq_true, decide_eq_true_eq] at h5
    obtain ⟨⟨g1, g2⟩, g3⟩ := h5
    obtain rfl := Nat.eq_of_beq_eq_true g2
    rw [← g1, ← g3]
    exact Or.inl (hW _ (ev_inM hx))
  · rename_i o i x host hx
    simp only [Bool.and_eq_true, decide_eq_true_eq] at h5
    obtain ⟨⟨g1, g2⟩, g3⟩ := h5
    obtain rfl := Nat.eq_of_beq_eq_true g2
    rw [← g1, ← g3]
    exact Or.inr ⟨host, va_Nw.of rfl (hW _ (ev_inM hx))⟩
  · cases h5
theorem ev_ckI_ok (hW : ∀ w ∈ ev_W0 mk cl more, w.before args s = true) {ini : Bool} {inp : Prop} (hini : ini = true → inp) {i : Instr} {a b t w : Nat} (h : ev_ckI more cl dfl tyf mk own ini i a b t w = true) :
    ev_lk cl dfl tyf own inp args s i a b t ∧ ev_lkC (ev_W1 mk cl more) cl (mk.map Prod.fst) own args s i a b t := by
  cases i with
  | getfield idx =>
    simp only [ev_ckI] at h
    split at h
    · rename_i c hc
      simp only [Bool.and_eq_true] at h
      exact ⟨⟨c.1, c.2.1, c.2.2, hc, Nat.blt_eq.mp h.1, (ev_ckF_ok hW h.2).1⟩, trivial⟩
    · cases h
  | putfield idx =>
    simp only [ev_ckI] at h
    split at h
    · rename_i c hc
      simp only [Bool.and_eq_true] at h
      obtain ⟨⟨⟨h1, h2⟩, h3⟩, h4⟩ := h
      split at h3
      · rename_i ty hty
        refine ⟨⟨c.1, c.2.1, c.2.2, ty, hc, Nat.blt_eq.mp h1, hty, Nat.eq_of_beq_eq_true h3, ?_⟩, trivial⟩
        cases hf : (c.2.1 b).2.2.2
        · exact Or.inl ⟨rfl, (ev_ckF_ok hW h2).1⟩
        · rw [hf] at h4
          simp only [Bool.not_true, Bool.false_or, Bool.and_eq_true, decide_eq_true_eq] at h4
          exact Or.inr ⟨rfl, hini h4.1.1, h4.1.2, (ev_ckF_ok hW h2).2 h4.2⟩
      · cases h3
    · cases h
  | newarray atype =>
    simp only [ev_ckI, Bool.and_eq_true, decide_eq_true_eq] at h
    exact ⟨⟨h.1.1, Nat.le_of_ble_eq_true h.1.2, hW _ (ev_inM h.2)⟩, trivial⟩
  | new idx =>
    simp only [ev_ckI] at h
    split at h
    · rename_i c hc
      simp only [Bool.and_eq_true, decide_eq_true_eq] at h
      obtain ⟨⟨⟨⟨h1, h2⟩, h3⟩, h4⟩, h5⟩ := h
      have h1 := Nat.eq_of_beq_eq_true h1
      refine ⟨⟨c.1, c.2.1, ?_, hW _ (ev_inM h2), hW _ (ev_inM h3), hW _ (ev_inM h4), fun j hj => ?_⟩, trivial⟩
      · rw [hc, ← h1]
      · have h6 := List.all_eq_true.mp h5 j (List.mem_range.mpr hj)
        simp only [ev_ckT, Bool.or_eq_true, Bool.and_eq_true] at h6
        rcases h6 with (h6 | h6) | h6
        · exact Or.inl ⟨Nat.eq_of_beq_eq_true h6.1, Nat.eq_of_beq_eq_true h6.2⟩
        · exact Or.inr (Or.inl ⟨Nat.eq_of_beq_eq_true h6.1, Nat.eq_of_beq_eq_true h6.2⟩)
        · exact Or.inr (Or.inr ⟨Nat.blt_eq.mp h6.1, Nat.eq_of_beq_eq_true h6.2⟩)
    · cases h
  | ldc idx =>
    simp only [ev_ckI, Bool.or_eq_true, decide_eq_true_eq] at h
    refine ⟨fun hi => ?_, trivial⟩
    rcases h with h | h
    · rw [hi] at h; cases h
    · exact hW _ (ev_inM h)
  | ldc_w idx =>
    simp only [ev_ckI, decide_eq_true_eq] at h
    exact ⟨hW _ (ev_inM h), trivial⟩
  | ldc2_w idx =>
    simp only [ev_ckI, decide_eq_true_eq] at h
    exact ⟨hW _ (ev_inM h), trivial⟩
  | invokespecial idx =>
    simp only [ev_ckI] at h
    refine ⟨trivial, ?_⟩
    cases hb : Nat.beq b 0
    · rw [hb, cond_false] at h
      split at h
      · rename_i m hm
        simp only [Bool.and_eq_true, decide_eq_true_eq] at h
        obtain ⟨⟨⟨h1, h2⟩, h3⟩, h4⟩ := h
        have h1 := Nat.eq_of_beq_eq_true h1
        have hb := ev_not_beq hb
        obtain ⟨n, rfl⟩ := Nat.exists_eq_succ_of_ne_zero hb
        have hB := ev_ckB_ok hW hm h4
        rw [h2] at hB
        refine Or.inr ⟨n, m.1.1, m.1.2.1, m.1.2.2.1, m.1.2.2.2.2, rfl, ?_, hB, h3, hW _ (ev_inB hm (by simp [ev_blk, h1]))⟩
        rw [List.getElem?_map, hm, ← h2]
        rfl
      · cases h
    · rw [hb, cond_true] at h
      simp only [Bool.and_eq_true, decide_eq_true_eq] at h
      exact Or.inl ⟨Nat.eq_of_beq_eq_true hb, hW _ (ev_inM h.1.1), hW _ (ev_inM h.1.2), hW _ (ev_inM h.2)⟩
  | invokestatic idx =>
    simp only [ev_ckI] at h
    refine ⟨trivial, ?_⟩
    split at h
    · rename_i m hm
      simp only [Bool.and_eq_true] at h
      have h1 := Nat.eq_of_beq_eq_true h.1
      refine ⟨m.1.1, m.1.2.1, m.1.2.2.1, m.1.2.2.2.1, m.1.2.2.2.2, ?_, ev_ckB_ok hW hm h.2, hW _ (ev_inB hm (by simp [ev_blk, h1]))⟩
      rw [List.getElem?_map, hm]
      rfl
    · cases h
  | invokevirtual idx =>
    simp only [ev_ckI] at h
    refine ⟨trivial, ?_⟩
    split at h
    · rename_i m c hm hc
      simp only [Bool.and_eq_true, decide_eq_true_eq] at h
      obtain ⟨⟨⟨⟨h1, h2⟩, h3⟩, h4⟩, h5⟩ := h
      have h1 := Nat.eq_of_beq_eq_true h1
      have h4 := Nat.blt_eq.mp h4
      obtain ⟨n, rfl⟩ := Nat.exists_eq_succ_of_ne_zero (Nat.ne_of_gt h4)
      refine ⟨n, m.1.1, m.1.2.1, m.1.2.2.1, m.1.2.2.2.1, m.1.2.2.2.2, c.1, c.2.1, c.2.2, rfl, ?_, hc, Nat.blt_eq.mp h3, ev_ckB_ok hW hm h5, hW _ (ev_inB hm (by simp [ev_blk, h1])), ?_⟩
      · rw [List.getElem?_map, hm]
        rfl
      · rw [h2]
        exact hW _ (ev_inB hm (by simp [ev_blk, h1]))
    · cases h
  | _ => exact ⟨trivial, trivial⟩
theorem ev_ckKK_ok (hW : ∀ w ∈ ev_W0 mk cl more, w.before args s = true) {oc : String} {i : Instr} {a b t w : Nat} (h : ev_ckKK more cl dfl tyf oc own i a b t w = true) : ev_lkK cl dfl tyf oc own args s i a b t := by
  cases i with
  | getfield idx =>
    simp only [ev_ckKK, Bool.or_eq_true, decide_eq_true_eq] at h
    intro ha hb
    rcases h with h | h
    · rw [ha, Nat.blt_eq.mpr hb] at h; cases h
    · exact hW _ (ev_inM h)
  | ldc idx =>
    simp only [ev_ckKK, Bool.or_eq_true, Bool.and_eq_true, decide_eq_true_eq] at h
    intro ha
    rcases h with h | h
    · rw [ha] at h; cases h
    · exact ⟨h.1, Nat.eq_of_beq_eq_true h.2⟩
  | getstatic idx =>
    simp only [ev_ckKK, Bool.and_eq_true, Bool.or_eq_true, decide_eq_true_eq] at h
    refine ⟨fun ha => ?_, fun ha => ?_⟩
    · rcases h.1 with h | h
      · rw [ha] at h; cases h
      · exact hW _ (ev_inM h)
    · rcases h.2 with h | h
      · rw [ha] at h; cases h
      · exact hW _ (ev_inM h)
  | invokestatic idx =>
    simp only [ev_ckKK, Bool.or_eq_true, Bool.and_eq_true, decide_eq_true_eq] at h
    obtain ⟨h1, h2, h3⟩ := h
    refine ⟨fun ha => ?_, fun ha => ?_, fun ha => ?_⟩
    · rcases h1 with h | h
      · rw [ha] at h; cases h
      · exact ⟨hW _ (ev_inM h.1), hW _ (ev_inM h.2.1), hW _ (ev_inM h.2.2.1), hW _ (ev_inM h.2.2.2)⟩
    · rcases h2 with h | h
      · rw [ha] at h; cases h
      · exact ⟨hW _ (ev_inM h.1), hW _ (ev_inM h.2.1), hW _ (ev_inM h.2.2.1), hW _ (ev_inM h.2.2.2)⟩
    · rcases h3 with h | h
      · rw [ha] at h; cases h
      · exact ⟨hW _ (ev_inM h.1), hW _ (ev_inM h.2.1), hW _ (ev_inM h.2.2.1), hW _ (ev_inM h.2.2.2)⟩
  | new idx =>
    simp only [ev_ckKK, Bool.or_eq_true] at h
    intro ha
    rcases h with h | h
    · rw [ha] at h; cases h
    · split at h
      · rename_i c c1 hc hc1
        simp only [Bool.and_eq_true, decide_eq_true_eq] at h
        obtain ⟨g1, g2, g3, g4, g5, g6, g7, g8, g9⟩ := h
        have g2 := Nat.eq_of_beq_eq_true g2
        have g3 := Nat.eq_of_beq_eq_true g3
        refine ⟨c.1, c.2.1, c1.2.1, by rw [hc, ← g2], by rw [hc1, g1, ← g3], Nat.le_of_ble_eq_true g4, fun k hk => ?_, hW _ (ev_inM g6), hW _ (ev_inM g7), hW _ (ev_inM g8), fun j hj => ?_⟩
        · have := List.all_eq_true.mp g5 k (List.mem_range.mpr hk)
          simp only [Bool.and_eq_true, decide_eq_true_eq] at this
          exact this
        · have := List.all_eq_true.mp g9 j (List.mem_range.mpr hj)
          simp only [Bool.or_eq_true, Bool.and_eq_true] at this
          rcases this with h | h
          · exact Or.inl ⟨Nat.eq_of_beq_eq_true h.1, Nat.eq_of_beq_eq_true h.2⟩
          · exact Or.inr ⟨Nat.blt_eq.mp h.1, Nat.eq_of_beq_eq_true h.2⟩
      · cases h
  | anewarray idx =>
    simp only [ev_ckKK, Bool.and_eq_true, decide_eq_true_eq] at h
    exact ⟨hW _ (ev_inM h.1), h.2⟩
  | aastore =>
    simp only [ev_ckKK] at h
    split at h
    · rename_i c hc
      have h := of_decide_eq_true h
      exact ⟨c.2.1, c.2.2, by rw [hc, ← h]⟩
    · cases h
  | _ => trivial
end EVK
theorem ev_Tab_of {more : List Jvm.Cond} {cl : List vw_C} {dfl : Nat → Nat} {tyf : Nat → Nat → FieldType} {mk : List ev_Mk} {oc : String} (h : ∀ (k : Nat) (m : ev_Mk), mk[k]? = some m → ev_ckMe more cl dfl tyf mk oc m = true) : ev_Tab (ev_W1 mk cl more) (ev_W0 mk cl more) cl dfl tyf (mk.map Prod.fst) oc := by
  intro mid y bytes maxL rt code hm
  rw [List.getElem?_map] at hm
  cases hk : mk[mid]? with
  | none => rw [hk] at hm; cases hm
  | some m =>
    rw [hk] at hm
    have hm : m.1 = (y, bytes, maxL, rt, code) := Option.some.inj hm
    have hc := h mid m hk
    unfold ev_ckMe at hc
    rw [hm] at hc
    simp only [Bool.and_eq_true] at hc
    refine ⟨hc.1, fun ini args s hW hini l hl x hx => ?_⟩
    have h2 := List.all_eq_true.mp (List.all_eq_true.mp hc.2 l hl) x hx
    unfold ev_ck at h2
    simp only [Bool.and_eq_true, decide_eq_true_eq] at h2
    refine ⟨h2.1, fun hp => ?_, ev_ckKK_ok hW h2.2.2⟩
    have h3 := h2.2.1
    rw [hp, Bool.false_or] at h3
    exact ev_ckI_ok hW (inp := ini) (fun q => hini (of_decide_eq_true q)) h3
theorem ev_uws {C : String} {T : u_T} {N : Nat} {w : Jvm.Cond} (h : w ∈ u_ws C T N) : ev_isNest w = false := by
  unfold u_ws at h
  obtain ⟨k, _, rfl⟩ := List.mem_map.mp h
  unfold u_lay
  split <;> rfl
def ev_ckC (tyf : Nat → Nat → FieldType) (k : Nat) (c : vw_C) : Bool := (List.range c.2.2).all (fun j => decide (parseFieldDescriptor (c.2.1 j).2.2.1 = some (tyf k j)))
theorem ev_Cls_of {more : List Jvm.Cond} {cl : List vw_C} {tyf : Nat → Nat → FieldType} {mk : List ev_Mk} (hl : cl.length ≤ 1000) (h1 : ∀ (k : Nat) (c : vw_C), cl[k]? = some c → ev_ckC tyf k c = true) (h2 : ∀ (k : Nat) (c : vw_C), cl[k]? = some c → ∀ a, a < c.2.2 → ∀ b, b < c.2.2 → a ≠ b → (c.2.1 a).2.1 ≠ (c.2.1 b).2.1) : ev_Cls (ev_W1 mk cl more) cl tyf := by
  refine ⟨hl, fun ci C T N hc => ⟨fun w hw => ev_W1_of (ev_inC (c := (C, T, N)) hc hw) (ev_uws hw), fun k hk => ?_, h2 ci (C, T, N) hc⟩⟩
  have := List.all_eq_true.mp (h1 ci _ hc) k (List.mem_range.mpr hk)
  exact of_decide_eq_true this
