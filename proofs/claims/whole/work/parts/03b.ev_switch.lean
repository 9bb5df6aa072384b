section EVA
variable {p : Program} {l : Launch} {e : Env} {R : Room} {s : State} {m : MethodId} {args : Array Value} {below : List Frame} {meth : Method} {c : Code} {H : Heap} {locs : List Loc} {cells slots : Nat} {Q : State → Prop} {cc : ByteArray}
theorem ev_ts2A {z dflt lo hi : Int} {offs : Array Int} {pc pc' : Nat} {L r L' st' : List Nat} (hs : ev_ts2 z dflt lo hi offs pc L r = some (pc', L', st')) :
    ((z < lo ∨ hi < z) ∧ ev_sw pc dflt L r = some (pc', L', st')) ∨ (¬ z < lo ∧ ¬ hi < z ∧ ∃ off, offs[(z - lo).toNat]? = some off ∧ ev_sw pc off L r = some (pc', L', st')) := by
  unfold ev_ts2 at hs
  cases hq2 : (decide (z < lo) || decide (hi < z))
  · rw [hq2, cond_false] at hs
    simp only [Bool.or_eq_false_iff, decide_eq_false_iff_not] at hq2
    right
    refine ⟨hq2.1, hq2.2, ?_⟩
    split at hs
    · rename_i off hoff
      exact ⟨off, hoff, hs⟩
    · cases hs
  · rw [hq2, cond_true] at hs
    simp only [Bool.or_eq_true, decide_eq_true_eq] at hq2
    exact Or.inl ⟨hq2, hs⟩
theorem ev_tsA {dflt lo hi : Int} {offs : Array Int} {pc pc' : Nat} {L st L' st' : List Nat} (hs : ev_ts dflt lo hi offs pc L st = some (pc', L', st')) :
    ∃ x r, st = x :: r ∧ ev_isI x = true ∧ ev_ts2 (ev_si x) dflt lo hi offs pc L r = some (pc', L', st') := by
  unfold ev_ts at hs
  split at hs
  · rename_i x r
    cases hq : ev_isI x
    · rw [hq, cond_false] at hs; cases hs
    · rw [hq, cond_true] at hs
      exact ⟨x, r, rfl, hq, hs⟩
  · cases hs
theorem ev_A_tableswitch {ka : ev_KA} (hx : p.tables.exec = Jvm.exec) (hb : c.code = cc) {dflt : Int} {lo : Int} {hi : Int} {offs : Array Int} {n0 a pc pc' nL : Nat} {L st L' st' ads : List Nat} {ls : Array Slot} {vs : List Value} (hd : decode cc pc = .ok ((.tableswitch dflt lo hi offs), ev_len (.tableswitch dflt lo hi offs) n0)) (hs : ev_stA (.tableswitch dflt lo hi offs) a pc L st = some (pc', L', st')) (hL : ev_L ka ads nL L ls) (hS : ev_S ka ads st vs)
    (kk : ∀ (ls' : Array Slot) (vs' : List Value), ev_L ka ads nL L' ls' → ev_S ka ads st' vs' → W p l e R s m args below meth c H locs cells slots Q (F0 m pc' ls' vs')) : W p l e R s m args below meth c H locs cells slots Q (F0 m pc ls vs) := by
  have hlen := hL.1
  simp only [ev_stA] at hs
  obtain ⟨x, r, rfl, hq, hs⟩ := ev_tsA hs
  obtain ⟨v1, r1, rfl, h3, h4⟩ := hS.cons
  obtain ⟨rfl, h5⟩ := h3.i hq
  have e5 := ev_toS h5
  generalize ev_si x = z at hs e5
  rcases ev_ts2A hs with ⟨hq2, hs⟩ | ⟨h6, h7, off, hoff, hs⟩
  · obtain ⟨h1, rfl, rfl⟩ := ev_sw_ok hs
    exact lv_tableOut hx hb hd (by rw [e5]; exact hq2) h1 (kk _ _ hL h4)
  · obtain ⟨h1, rfl, rfl⟩ := ev_sw_ok hs
    exact lv_tableIn hx hb hd (by rw [e5]; exact h6) (by rw [e5]; exact h7) (by rw [e5]; exact hoff) h1 (kk _ _ hL h4)
set_option maxHeartbeats 4000000 in
theorem ev_A_ok {ka : ev_KA} (hx : p.tables.exec = Jvm.exec) (hb : c.code = cc) {i : Instr} {n0 a pc pc' nL : Nat} {L st L' st' ads : List Nat} {ls : Array Slot} {vs : List Value} (hd : decode cc pc = .ok (i, ev_len i n0)) (hs : ev_stA i a pc L st = some (pc', L', st')) (hL : ev_L ka ads nL L ls) (hS : ev_S ka ads st vs)
    (kk : ∀ (ls' : Array Slot) (vs' : List Value), ev_L ka ads nL L' ls' → ev_S ka ads st' vs' → W p l e R s m args below meth c H locs cells slots Q (F0 m pc' ls' vs')) : W p l e R s m args below meth c H locs cells slots Q (F0 m pc ls vs) := by
  cases i with
  | iload n => exact ev_A_iload hx hb hd hs hL hS kk
  | iload_n n => exact ev_A_iload_n hx hb hd hs hL hS kk
  | lload n => exact ev_A_lload hx hb hd hs hL hS kk
  | lload_n n => exact ev_A_lload_n hx hb hd hs hL hS kk
  | aload n => exact ev_A_aload hx hb hd hs hL hS kk
  | aload_n n => exact ev_A_aload_n hx hb hd hs hL hS kk
  | istore n => exact ev_A_istore hx hb hd hs hL hS kk
  | istore_n n => exact ev_A_istore_n hx hb hd hs hL hS kk
  | lstore n => exact ev_A_lstore hx hb hd hs hL hS kk
  | lstore_n n => exact ev_A_lstore_n hx hb hd hs hL hS kk
  | astore n => exact ev_A_astore hx hb hd hs hL hS kk
  | astore_n n => exact ev_A_astore_n hx hb hd hs hL hS kk
  | iconst n => exact ev_A_iconst hx hb hd hs hL hS kk
  | bipush n => exact ev_A_bipush hx hb hd hs hL hS kk
  | sipush n => exact ev_A_sipush hx hb hd hs hL hS kk
  | lconst n => exact ev_A_lconst hx hb hd hs hL hS kk
  | iadd => exact ev_A_iadd hx hb hd hs hL hS kk
  | isub => exact ev_A_isub hx hb hd hs hL hS kk
  | imul => exact ev_A_imul hx hb hd hs hL hS kk
  | iand => exact ev_A_iand hx hb hd hs hL hS kk
  | ior => exact ev_A_ior hx hb hd hs hL hS kk
  | ixor => exact ev_A_ixor hx hb hd hs hL hS kk
  | iushr => exact ev_A_iushr hx hb hd hs hL hS kk
  | ineg => exact ev_A_ineg hx hb hd hs hL hS kk
  | i2b => exact ev_A_i2b hx hb hd hs hL hS kk
  | i2c => exact ev_A_i2c hx hb hd hs hL hS kk
  | i2l => exact ev_A_i2l hx hb hd hs hL hS kk
  | l2i => exact ev_A_l2i hx hb hd hs hL hS kk
  | ladd => exact ev_A_ladd hx hb hd hs hL hS kk
  | lsub => exact ev_A_lsub hx hb hd hs hL hS kk
  | lmul => exact ev_A_lmul hx hb hd hs hL hS kk
  | land => exact ev_A_land hx hb hd hs hL hS kk
  | lxor => exact ev_A_lxor hx hb hd hs hL hS kk
  | lcmp => exact ev_A_lcmp hx hb hd hs hL hS kk
  | lushr => exact ev_A_lushr hx hb hd hs hL hS kk
  | dup => exact ev_A_dup hx hb hd hs hL hS kk
  | dup_x1 => exact ev_A_dup_x1 hx hb hd hs hL hS kk
  | dup2 => exact ev_A_dup2 hx hb hd hs hL hS kk
  | pop => exact ev_A_pop hx hb hd hs hL hS kk
  | iinc n k => exact ev_A_iinc hx hb hd hs hL hS kk
  | goto off => exact ev_A_goto hx hb hd hs hL hS kk
  | ifCond cd off => exact ev_A_ifCond hx hb hd hs hL hS kk
  | if_icmp cd off => exact ev_A_if_icmp hx hb hd hs hL hS kk
  | ifnull off => exact ev_A_ifnull hx hb hd hs hL hS kk
  | ifnonnull off => exact ev_A_ifnonnull hx hb hd hs hL hS kk
  | tableswitch dflt lo hi offs => exact ev_A_tableswitch hx hb hd hs hL hS kk
  | _ => cases hs
end EVA
