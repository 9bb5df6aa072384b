/-! ===== a18: all operands, expressions and tables at every depth, given the bodies of functions (wip/whole2/lawa18.py) ===== -/
/-- a function's body at depth D -/
def B_ok (nn : Nat) (T : Nat → Nat) (n M : Nat) (G0 : wq_F) (c0 : List (List Nat)) (O D : Nat) : Prop := ∀ (k sf i t w s nw ns np N : Nat) (off voff ph : Nat → Nat) (cx : Nat → List Nat) (c cb : List Nat) (W : List (Nat × Nat × Nat × Nat)) (L : List (Nat × Nat)) (P Q : List (Nat × Nat × Nat)) (ls cs : List (List Nat)) (F G : wq_F),
  20 * (22 - D) + 13 ≤ k → t = D → sf < 2 → ry T n M i ls t w nw np ((19, sf, 0, 0) :: W) L P F → cy T n G0 c0 O i cs s ns np N Q G → bz N off voff ph cx c np F ls G cs → bnd i w s nw ns np t (hg c) W L P Q N → W.length ≤ 20 * t + 8 → N ≤ t →
  wok (dk_R nn k 155 [D, sf] G) (fun _ K => (∃ i' w' s' nw' ns' np' ls' cs' H, (rm_to nn F H ∧ rm_fr F H) ∧ eg T n M G0 c0 O N off voff ph cx cb F G i ls cs w s nw ns np c t W L P Q H K i' ls' cs' w' s' nw' ns' np' (0 :: c) ∧ rts i w s nw ns i' w' s' nw' ns' ∧ H 0 64 = 4294967295) ∨ ∃ e p, rm_out nn e p F ∧ sx T n G0 c0 O e p N (zz D + 55) K)
section
variable {nn : Nat} {T : Nat → Nat} {n M O : Nat} {G0 : wq_F} {c0 : List (List Nat)} {i t w s nw ns np N : Nat} {off voff ph : Nat → Nat} {cx : Nat → List Nat} {c cb : List Nat} {W : List (Nat × Nat × Nat × Nat)} {L : List (Nat × Nat)} {P Q : List (Nat × Nat × Nat)} {ls cs : List (List Nat)} {F G : wq_F}

theorem O_le {m : Option (Nat × wq_F)} {B B' r : Nat} {K : wq_F} (h : O_ok nn T n M G0 c0 O N off voff ph cx cb F G i ls cs w s nw ns np c t W L P Q m B r K) (hB : B ≤ B') : O_ok nn T n M G0 c0 O N off voff ph cx cb F G i ls cs w s nw ns np c t W L P Q m B' r K := by
  rcases h with h | ⟨e, p, h1, h2⟩
  · exact Or.inl h
  · exact Or.inr ⟨e, p, h1, sx_le h2 hB⟩
theorem sx_155 {k e p B' d v : Nat} (hx : sx T n G0 c0 O e p N B' G) (hk : 1 ≤ k) : wok (dk_R nn k 155 [d, v] G) (fun _ K => sx T n G0 c0 O e p N B' K) := by
  obtain ⟨k, rfl⟩ : ∃ m, k = m + 1 := ⟨k - 1, by omega⟩
  rw [dk_Re_155]
  unfold dk_155
  refine wok_f (sx_ne hx (by decide)) ?_
  exact wok_b (wok_e (px_refused hx.1) hx) fun r K h => wok_r h
theorem op_func {D k : Nat} (hM : tk_M T n M) (hF : B_ok nn T n M G0 c0 O D) (hk : 20 * (22 - D) + 13 ≤ k) (htD : t = D) (hr : ry T n M i ls t w nw np W L P F) (hc : cy T n G0 c0 O i cs s ns np N Q G) (hb : bz N off voff ph cx c np F ls G cs) (hn : 10000 < nn) (hc0 : c0.length ≤ 1400) (hO : O ≤ 20000) (hB : bnd i w s nw ns np t (hg c) W L P Q N) (hW : W.length ≤ 20 * t + 8) (hNt : N ≤ t) (hkk : tk_k T n i = 4 ∧ tk_V T n (tk_pos T n i) = 9) : wok (dk_150 (dk_R nn k) nn G D) (fun r K => O_ok nn T n M G0 c0 O N off voff ph cx cb F G i ls cs w s nw ns np c t W L P Q (dk_238 F) (zz D + 60) r K) := by
  have h57 : G 57 4 = 18 := hc.1.2.1.1.trans ((tk_ty_word (by decide)).mpr hkk)
  have h62 := hb.2.2.2.2.2.1
  have hM1 := hM.1
  have hiM := hr.1.2.2.1
  obtain ⟨m1, m2, m3, m4, m5, m6, m7, m8, m9, m10, m11, m12⟩ := hB
  have hz : 6310 ≤ zz D := by
    unfold zz
    omega
  have hd := rd_func hM hr.1 hkk
  have hr1 : ry T n M i ls t w nw np W L P (wq_up F 0 64 4294967295) := ry_up hr (by unfold ry_n; omega)
  have h46 : wq_up F 0 64 4294967295 0 46 = W.length := hr1.2.2.1.1
  rw [dkS_31 (by omega), od_bS] at hd
  dsimp only at hd
  have hr2 : ry T n M i ls t w nw np ((19, 0, 0, 0) :: W) L P (pm_la (wq_up F 0 64 4294967295) 19 0 0 0) := ry_la hr1
  have b2 : bz N off voff ph cx c np (pm_la (wq_up F 0 64 4294967295) 19 0 0 0) ls G cs := bz_la (bz_fu hb (by omega))
  have f2 : rm_fr F (pm_la (wq_up F 0 64 4294967295) 19 0 0 0) := rm_fr_la (rm_fr_up (rm_fr_refl _) (by decide) (by decide))
  have x2 : ∀ d j, 12 ≤ d ∧ d ≤ 24 → pm_la (wq_up F 0 64 4294967295) 19 0 0 0 d j = F d j := fun d j q => by rw [pm_la_ne (by omega) (by omega), wq_up_cell (by omega)]
  generalize pm_la (wq_up F 0 64 4294967295) 19 0 0 0 = F2 at *
  unfold dk_150
  refine wok_l (wok_f (by omega) (wok_f (by omega) (wok_f (by omega) (wok_t h57 ?_))))
  refine wok_b (bt_77 (B := 6200) hM hr2 hc b2 (by omega) (by omega) (by omega) hc0 hO (by omega) (by omega) m5 (by omega)) fun r1 K1 h1 => ?_
  dsimp only
  rcases h1 with ⟨iM, e2, ms, c3, b3, f3, p3⟩ | ⟨e2, hx⟩
  · have hr3 := ry_nx hr2 iM
    have b3' : bz N off voff ph cx c np (wq_up F2 0 25 (i + 1)) ls K1 ms := bz_fu b3 (by omega)
    have g3 : rgo nn F (dk_238 F) (wq_up F2 0 25 (i + 1)) := rgo_i (hd.trans e2) (by decide) hr3.1.1 (rm_fr_up f2 (by decide) (by decide))
    have eg3 : eg T n M G0 c0 O N off voff ph cx cb F G i ls cs w s nw ns np c t ((19, 0, 0, 0) :: W) L P Q (wq_up F2 0 25 (i + 1)) K1 (i + 1) ls ms w s nw ns np c := eg_n hr3 c3 b3' (fun d j q => (wq_up_cell (by omega)).trans (x2 d j (by omega))) (qf_fr f3) p3 (Nat.le_succ _) m5
    generalize wq_up F2 0 25 (i + 1) = F3 at *
    refine wok_b (hF k 0 (i + 1) t w s nw ns np N off voff ph cx c cb W L P Q ls ms F3 K1 hk htD (by decide) hr3 c3 b3' ⟨by omega, by omega, by omega, by omega, m5, m6, by omega, m8, m9, m10, m11, m12⟩ hW hNt) fun r K h => wok_r ?_
    rcases h with ⟨i', w', s', nw', ns', np', ls', cs', H, g4, e4, ⟨u1, u2, u3, u4, u5⟩, h64⟩ | ⟨e, p, ho, hx⟩
    · exact Or.inl ⟨i', w', s', nw', ns', np', ls', cs', H, rgo_t g3 g4, eg_t eg3 e4 h62, ⟨by omega, by omega, by omega, by omega, by omega⟩, Or.inl ⟨rfl, h64⟩⟩
    · exact Or.inr ⟨e, p, rgo_o g3 ho, sx_le hx (by omega)⟩
  · exact wok_b (sx_155 hx (by omega)) fun r K h => wok_r (Or.inr ⟨_, _, rba_f (hd.trans e2) f2 (by rw [hr2.2.1.2.1]; omega), sx_le h (by omega)⟩)
theorem tb_op {x : Nat} (h1 : ¬ tb_ex x = 0) (h2 : tb_un x = 4294967295) : x = 2 ∨ x = 3 ∨ x = 4 ∨ x = 16 ∨ x = 18 ∨ x = 22 ∨ x = 28 ∨ x = 51 ∨ x = 53 ∨ x = 65 := by
  unfold tb_ex at h1
  rw [h2] at h1
  by_cases q2 : x = 2
  · exact Or.inl q2
  rw [if_neg q2] at h1
  by_cases q3 : x = 3
  · exact Or.inr (Or.inl q3)
  rw [if_neg q3] at h1
  by_cases q4 : x = 4
  · exact Or.inr (Or.inr (Or.inl q4))
  rw [if_neg q4] at h1
  by_cases q16 : x = 16
  · exact Or.inr (Or.inr (Or.inr (Or.inl q16)))
  rw [if_neg q16] at h1
  by_cases q18 : x = 18
  · exact Or.inr (Or.inr (Or.inr (Or.inr (Or.inl q18))))
  rw [if_neg q18] at h1
  by_cases q22 : x = 22
  · exact Or.inr (Or.inr (Or.inr (Or.inr (Or.inr (Or.inl q22)))))
  rw [if_neg q22] at h1
  by_cases q28 : x = 28
  · exact Or.inr (Or.inr (Or.inr (Or.inr (Or.inr (Or.inr (Or.inl q28))))))
  rw [if_neg q28] at h1
  by_cases q51 : x = 51
  · exact Or.inr (Or.inr (Or.inr (Or.inr (Or.inr (Or.inr (Or.inr (Or.inl q51)))))))
  rw [if_neg q51] at h1
  by_cases q53 : x = 53
  · exact Or.inr (Or.inr (Or.inr (Or.inr (Or.inr (Or.inr (Or.inr (Or.inr (Or.inl q53))))))))
  rw [if_neg q53] at h1
  by_cases q65 : x = 65
  · exact Or.inr (Or.inr (Or.inr (Or.inr (Or.inr (Or.inr (Or.inr (Or.inr (Or.inr (q65)))))))))
  rw [if_neg q65] at h1
  exact absurd (if_pos rfl) h1
/-- an operand -/
theorem P_step {D : Nat} (hM : tk_M T n M) (hn : 10000 < nn) (hc0 : c0.length ≤ 1400) (hO : O ≤ 20000) (hD : D ≤ 20) (hE1 : E_ok nn T n M G0 c0 O (D + 1)) (hE2 : D ≤ 19 → E_ok nn T n M G0 c0 O (D + 2)) (hF : B_ok nn T n M G0 c0 O D) : P_ok nn T n M G0 c0 O D := by
  intro k i t w s nw ns np N off voff ph cx c cb W L P Q ls cs F G hk htD hex hun hr hc hb hB ⟨hW, hNt⟩
  have hT := Tb_of hM hE2 hD hn hc0 hO
  obtain ⟨k, rfl⟩ : ∃ m, k = m + 1 := ⟨k - 1, by omega⟩
  have hz : 6310 ≤ zz D := by
    unfold zz
    omega
  rw [dk_Re_150]
  rcases tb_op hex hun with q | q | q | q | q | q | q | q | q | q
  · exact op_chain hM hE1 hT (by omega) htD hD hr hc hb hn hc0 hO hB hW (Or.inl (tk_ty_kind.1.mp q))
  · exact wok_m (op_num hM hr hc hb hn hc0 hO hB (tk_ty_kind.2.1.mp q)) fun r K h => O_le h (by omega)
  · exact wok_m (op_str hM hr hc hb hn hc0 hO hB (tk_ty_kind.2.2.1.mp q)) fun r K h => O_le h (by omega)
  · exact wok_m (op_false hM hr hc hb hn hc0 hO hB ((tk_ty_word (w := 7) (by decide)).mp q)) fun r K h => O_le h (by omega)
  · exact op_func hM hF (by omega) htD hr hc hb hn hc0 hO hB (by omega) hNt ((tk_ty_word (w := 9) (by decide)).mp q)
  · exact wok_m (op_nil hM hr hc hb hn hc0 hO hB ((tk_ty_word (w := 13) (by decide)).mp q)) fun r K h => O_le h (by omega)
  · exact wok_m (op_true hM hr hc hb hn hc0 hO hB ((tk_ty_word (w := 19) (by decide)).mp q)) fun r K h => O_le h (by omega)
  · exact op_chain hM hE1 hT (by omega) htD hD hr hc hb hn hc0 hO hB hW (Or.inr ((tk_ty_sign (c := 40) (by decide)).mp q))
  · exact op_tab hM hT (by omega) htD hr hc hb hn hc0 hO hB (by omega) ((tk_ty_sign (c := 123) (by decide)).mp q)
  · exact wok_m (op_dots hM hr hc hb hn hc0 hO hB ((tk_ty_sign (c := 301) (by decide)).mp q)) fun r K h => O_le h (by omega)
/-- all expressions and tables from depth D on, given the bodies from there on -/
theorem E_all (hM : tk_M T n M) (hn : 10000 < nn) (hc0 : c0.length ≤ 1400) (hO : O ≤ 20000) : ∀ m D, D + m = 21 → (∀ d, D ≤ d → d ≤ 20 → B_ok nn T n M G0 c0 O d) → ∀ d, D ≤ d → d ≤ 21 → E_ok nn T n M G0 c0 O d := by
  intro m
  induction m with
  | zero =>
    intro D hm hF d h1 h2
    rw [show d = 21 by omega]
    exact E_step hM hn hc0 hO (fun z => absurd z (by decide)) (fun z => absurd z (by decide))
  | succ m ih =>
    intro D hm hF d h1 h2
    have hi := ih (D + 1) (by omega) (fun d a b => hF d (by omega) b)
    by_cases q : d = D
    · rw [q]
      exact E_step hM hn hc0 hO (fun z => hi (D + 1) (Nat.le_refl _) (by omega)) (fun z => P_step hM hn hc0 hO z (hi (D + 1) (Nat.le_refl _) (by omega)) (fun y => hi (D + 2) (by omega) (by omega)) (hF D (Nat.le_refl _) z))
    · exact hi d (by omega) h2
end
