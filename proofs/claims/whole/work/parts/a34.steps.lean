/-! ===== a34: single steps of both sides (wip/whole2/lawa34.py) ===== -/
section
variable {nn : Nat} {T : Nat → Nat} {n M O : Nat} {G0 : wq_F} {c0 : List (List Nat)} {i t w s nw ns np N : Nat} {off voff ph : Nat → Nat} {cx : Nat → List Nat} {c cb : List Nat} {W : List (Nat × Nat × Nat × Nat)} {L : List (Nat × Nat)} {P Q : List (Nat × Nat × Nat)} {ls cs : List (List Nat)} {F G : wq_F}

/-- a mark: the reference alone -/
theorem e_mark {a b l : Nat} (hr : ry T n M i ls t w nw np W L P F) (hc : cy T n G0 c0 O i cs s ns np N Q G) (hb : bz N off voff ph cx c np F ls G cs) (hnp : np ≤ 50) : eg T n M G0 c0 O N off voff ph cx cb F G i ls cs w s nw ns np c t W L P Q (pm_em F 14 a b l) G i ls cs (w + 1) s nw ns np (1 :: c) := by
  have hw2 : F 0 41 = w := hr.2.1.2.1
  have b2 := bz_em (op := 14) (a := a) (b := b) (ln := l) hb
  have hat := pm_em_at (F := F) (op := 14) (a := a) (b := b) (ln := l)
  rw [hw2] at hat
  have b4 : bz N off voff ph cx (1 :: c) np (pm_em F 14 a b l) ls G cs := bz_h b2 (bzG_refl _) (fun l hl => by
    by_cases z : l = N - 1
    · rw [if_pos z, z, bz_hc b2, hg_1]
    · rw [if_neg z]) (fun k _ _ h => cx_at_c h) (bz_c0 b2 (by decide))
  refine ⟨ry_em hr, hc, b4, ?_, ⟨st_sf_refl _, st_pre_refl _, ⟨fun _ _ => ⟨rfl, rfl⟩, fun _ _ _ _ => rfl⟩⟩, Nat.le_refl _, hnp⟩
  refine pj_1 ⟨by omega, by omega, by omega, by omega⟩ (fun d j q => pm_em_ne (by omega) (by omega)) (fun d j q => rfl) (fun H J nm ha2 hb2 _ => Or.inl ⟨13, ?_, rfl⟩)
  rw [ha2.1 20 w (by decide) (by decide) (by omega) (by omega)]
  exact hat.1
/-- the reference's waits and numbers alone change -/
theorem e_w {H : wq_F} {t' : Nat} {W' : List (Nat × Nat × Nat × Nat)} {L' : List (Nat × Nat)} {P' : List (Nat × Nat × Nat)} (hr : ry T n M i ls t' w nw np W' L' P' H) (hc : cy T n G0 c0 O i cs s ns np N Q G) (hb : bz N off voff ph cx c np F ls G cs) (hnp : np ≤ 50) (hx : ∀ d j, (12 ≤ d ∧ d ≤ 24) ∨ (29 ≤ d ∧ d ≤ 32) → H d j = F d j) (h0 : H 0 50 = F 0 50 ∧ H 0 53 = F 0 53) : eg T n M G0 c0 O N off voff ph cx cb F G i ls cs w s nw ns np c t' W' L' P' Q H G i ls cs w s nw ns np c :=
  eg_n hr hc (bz_F hb ⟨fun d hd => funext fun j => hx d j (by omega), h0.1, h0.2⟩) (fun d j q => hx d j (by omega)) (qf_refl _) (st_pre_refl _) (Nat.le_refl _) hnp
/-- a wait more -/
theorem e_la {x1 x2 x3 x4 : Nat} (hr : ry T n M i ls t w nw np W L P F) (hc : cy T n G0 c0 O i cs s ns np N Q G) (hb : bz N off voff ph cx c np F ls G cs) (hnp : np ≤ 50) : eg T n M G0 c0 O N off voff ph cx cb F G i ls cs w s nw ns np c t ((x1, x2, x3, x4) :: W) L P Q (pm_la F x1 x2 x3 x4) G i ls cs w s nw ns np c := e_w (ry_la hr) hc hb hnp (fun d j q => pm_la_ne (by omega) (by omega)) ⟨pm_la_ne (by omega) (by omega), pm_la_ne (by omega) (by omega)⟩
/-- a wait less -/
theorem e_pop {e : Nat × Nat × Nat × Nat} (hr : ry T n M i ls t w nw np (e :: W) L P F) (hc : cy T n G0 c0 O i cs s ns np N Q G) (hb : bz N off voff ph cx c np F ls G cs) (hnp : np ≤ 50) : eg T n M G0 c0 O N off voff ph cx cb F G i ls cs w s nw ns np c t W L P Q (wq_up F 0 46 W.length) G i ls cs w s nw ns np c := e_w (ry_pop hr) hc hb hnp (fun d j q => wq_up_cell (by omega)) ⟨wq_up_at (by decide), wq_up_at (by decide)⟩
/-- an instruction on both sides, the class's height untouched -/
theorem e_78 {o a b l op x y l' : Nat} (hr : ry T n M i ls t w nw np W L P F) (hc : cy T n G0 c0 O i cs s ns np N Q G) (hb : bz N off voff ph cx c np F ls G cs) (hnp : np ≤ 50) (hs : s < 10000) (hok : okj y) (hf : ∀ (H J : wq_F) (nm : Nat → Nat → Prop), rI H w o a b l → cI J s op x y l' → nmr ls cs nm → (∃ k, cs1 H J nm k (G 62 (N - 1)) w s c [(G 62 (N - 1), w + 1, s + 1, c)]) ∨ ∃ k, cs2 H J k (G 62 (N - 1)) w s c [(G 62 (N - 1), w + 1, s + 1, c)]) : wok (dk_78 G op x y l') (fun r K => r = s ∧ (eg T n M G0 c0 O N off voff ph cx cb F G i ls cs w s nw ns np c t W L P Q (pm_em F o a b l) K i ls cs (w + 1) (s + 1) nw ns np c) ∧ (∀ j, K 56 j = G 56 j) ∧ cI K s op x y l') := by
  refine wok_m (cy_78 hc hb hs hok) fun r K ⟨h1, h2, h3, h4, h5, h6⟩ => ⟨h1, ⟨ry_em hr, h2, bz_em h3, ?_, ⟨st_sf_refl _, st_pre_refl _, ⟨fun l _ => ⟨h5 62 l (by omega), h5 65 l (by omega)⟩, fun i _ e6 h6 => h5 e6 i (by omega)⟩⟩, Nat.le_refl _, hnp⟩, h6, h4⟩
  exact pj_e (fun d j q => rfl) hr.2.1.2.1 h5 h4 hf
/-- a step: both -/
theorem e_step {l l' a b : Nat} (hr : ry T n M i ls t w nw np W L P F) (hc : cy T n G0 c0 O i cs s ns np N Q G) (hb : bz N off voff ph cx c np F ls G cs) (hnp : np ≤ 50) (hs : s < 10000) : wok (dk_78 G 0 0 0 l') (fun r K => r = s ∧ (eg T n M G0 c0 O N off voff ph cx cb F G i ls cs w s nw ns np c t W L P Q (pm_em F 0 a b l) K i ls cs (w + 1) (s + 1) nw ns np c) ∧ (∀ j, K 56 j = G 56 j) ∧ cI K s 0 0 0 l') := e_78 hr hc hb hnp hs (okj_p (by decide)) (fun H J nm h1 h2 _ => Or.inl ⟨0, h1.1, h2.1, rfl⟩)
/-- ... another height -/
theorem e_112 {o a b l op x l' by' : Nat} {d : List Nat} (hr : ry T n M i ls t w nw np W L P F) (hc : cy T n G0 c0 O i cs s ns np N Q G) (hb : bz N off voff ph cx c np F ls G cs) (hnp : np ≤ 50) (hs : s < 10000) (hd : hg d = (hg c + by') % 4294967296) (hat : ∀ k, voff (N - 1) ≤ k → k < voff N → cx_at c (G 61 (ph k)) (F 30 k) → cx_at d (G 61 (ph k)) (F 30 k)) (hd2 : ∀ e ∈ d, e < F 14 (G 62 (N - 1)) + 5) (hf : ∀ (H J : wq_F) (nm : Nat → Nat → Prop), rI H w o a b l → cI J s op x 0 l' → nmr ls cs nm → (∃ k, cs1 H J nm k (G 62 (N - 1)) w s c [(G 62 (N - 1), w + 1, s + 1, d)]) ∨ ∃ k, cs2 H J k (G 62 (N - 1)) w s c [(G 62 (N - 1), w + 1, s + 1, d)]) : wok (dk_112 G op x l' by') (fun _ K => (eg T n M G0 c0 O N off voff ph cx cb F G i ls cs w s nw ns np c t W L P Q (pm_em F o a b l) K i ls cs (w + 1) (s + 1) nw ns np d) ∧ ∀ j, K 56 j = G 56 j) := by
  refine wok_m (cy_112 hc hb hs hd hat hd2) fun r K ⟨h2, h3, h4, h5, h6⟩ => ⟨⟨ry_em hr, h2, bz_em h3, ?_, ⟨st_sf_refl _, st_pre_refl _, ⟨fun l _ => ⟨h5 62 l (by omega), h5 65 l (by omega)⟩, fun i _ e6 h6 => h5 e6 i (by omega)⟩⟩, Nat.le_refl _, hnp⟩, h6⟩
  exact pj_e (fun d j q => rfl) hr.2.1.2.1 h5 h4 hf
/-- the stack cut -/
theorem e_113 {o a b l h : Nat} {d : List Nat} (hr : ry T n M i ls t w nw np W L P F) (hc : cy T n G0 c0 O i cs s ns np N Q G) (hb : bz N off voff ph cx c np F ls G cs) (hnp : np ≤ 50) (hs : s < 10000) (hd : h = hg d) (hat : ∀ k, voff (N - 1) ≤ k → k < voff N → cx_at c (G 61 (ph k)) (F 30 k) → cx_at d (G 61 (ph k)) (F 30 k)) (hd2 : ∀ e ∈ d, e < F 14 (G 62 (N - 1)) + 5) (hf : ∀ (H J : wq_F) (nm : Nat → Nat → Prop), rI H w o a b l → cI J s 27 h 0 0 → nmr ls cs nm → (∃ k, cs1 H J nm k (G 62 (N - 1)) w s c [(G 62 (N - 1), w + 1, s + 1, d)]) ∨ ∃ k, cs2 H J k (G 62 (N - 1)) w s c [(G 62 (N - 1), w + 1, s + 1, d)]) : wok (dk_113 G h) (fun _ K => (eg T n M G0 c0 O N off voff ph cx cb F G i ls cs w s nw ns np c t W L P Q (pm_em F o a b l) K i ls cs (w + 1) (s + 1) nw ns np d) ∧ ∀ j, K 56 j = G 56 j) := by
  refine wok_m (cy_113 hc hb hs hd hat hd2) fun r K ⟨h2, h3, h4, h5, h6⟩ => ⟨⟨ry_em hr, h2, bz_em h3, ?_, ⟨st_sf_refl _, st_pre_refl _, ⟨fun l _ => ⟨h5 62 l (by omega), h5 65 l (by omega)⟩, fun i _ e6 h6 => h5 e6 i (by omega)⟩⟩, Nat.le_refl _, hnp⟩, h6⟩
  exact pj_e (fun d j q => rfl) hr.2.1.2.1 h5 h4 hf
/-- the class's height alone: what both stand at is the same -/
theorem e_162 {h : Nat} {d : List Nat} (hr : ry T n M i ls t w nw np W L P F) (hc : cy T n G0 c0 O i cs s ns np N Q G) (hb : bz N off voff ph cx c np F ls G cs) (hnp : np ≤ 50) (hd : h = hg d) (hat : ∀ k, voff (N - 1) ≤ k → k < voff N → cx_at c (G 61 (ph k)) (F 30 k) → cx_at d (G 61 (ph k)) (F 30 k)) (hd2 : ∀ e ∈ d, e < F 14 (G 62 (N - 1)) + 5) : wok (dk_162 G h) (fun _ K => cy T n G0 c0 O i cs s ns np N Q K ∧ bz N off voff ph cx d np F ls K cs ∧ qf s ns G K ∧ ∀ j, K 56 j = G 56 j) := cy_162 hc hb hd hat hd2
/-- a token taken -/
theorem e_77 {B : Nat} (hM : tk_M T n M) (hr : ry T n M i ls t w nw np W L P F) (hc : cy T n G0 c0 O i cs s ns np N Q G) (hb : bz N off voff ph cx c np F ls G cs) (h6 : ¬ tk_k T n i = 6) (h7 : ¬ tk_k T n i = 7) (hn : 10000 < nn) (hc0 : c0.length ≤ 1400) (hO : O ≤ 20000) (hs : s ≤ B) (hns : ns ≤ 10000) (hnp : np ≤ 50) (hQ : Q.length ≤ 440) :
    wok (dk_77 nn G) (fun _ K => (∃ ms, i < M ∧ dk_212 F = some (1, wq_up F 0 25 (i + 1)) ∧ (eg T n M G0 c0 O N off voff ph cx cb F G i ls cs w s nw ns np c t W L P Q (wq_up F 0 25 (i + 1)) K (i + 1) ls ms w s nw ns np c) ∧ px_fr G K) ∨ (dk_212 F = some (0, pm_f F 3 (tk_pos T n i)) ∧ sx T n G0 c0 O 3 (tk_pos T n i) N B K)) := by
  refine wok_m (bt_77 (B := B) hM hr hc hb h6 h7 (by omega) hc0 hO hs hns hnp hQ) fun r K h => ?_
  rcases h with ⟨iM, e, ms, h1, h2, h3, h4⟩ | h
  · exact Or.inl ⟨ms, iM, e, eg_n (ry_nx hr iM) h1 (bz_fu h2 (by omega)) (fun d j q => wq_up_cell (by omega)) (qf_fr h3) h4 (Nat.le_succ _) hnp, h3⟩
  · exact Or.inr h
/-- a sign that must stand there -/
theorem e_sg {x B : Nat} (hM : tk_M T n M) (hr : ry T n M i ls t w nw np W L P F) (hc : cy T n G0 c0 O i cs s ns np N Q G) (hb : bz N off voff ph cx c np F ls G cs) (hx : x ∈ lx_signs) (hx2 : x < 2147483648) (hn : 10000 < nn) (hc0 : c0.length ≤ 1400) (hO : O ≤ 20000) (hs : s ≤ B) (hns : ns ≤ 10000) (hnp : np ≤ 50) (hQ : Q.length ≤ 440) :
    wok (dk_110 nn G (lx_sg x)) (fun _ K => (∃ ms, i < M ∧ dk_213 F x = some (1, wq_up F 0 25 (i + 1)) ∧ (eg T n M G0 c0 O N off voff ph cx cb F G i ls cs w s nw ns np c t W L P Q (wq_up F 0 25 (i + 1)) K (i + 1) ls ms w s nw ns np c) ∧ px_fr G K) ∨ ∃ k, dk_213 F x = some (0, pm_f F k (tk_pos T n i)) ∧ sx T n G0 c0 O k (tk_pos T n i) N B K) := by
  refine wok_m (bt_sg (B := B) hM hr hc hb hx hx2 (by omega) hc0 hO hs hns hnp hQ) fun r K h => ?_
  rcases h with ⟨iM, e, ms, h1, h2, h3, h4⟩ | h
  · exact Or.inl ⟨ms, iM, e, eg_n (ry_nx hr iM) h1 (bz_fu h2 (by omega)) (fun d j q => wq_up_cell (by omega)) (qf_fr h3) h4 (Nat.le_succ _) hnp, h3⟩
  · exact Or.inr h
/-- a word that must stand there -/
theorem e_wd {x B : Nat} (hM : tk_M T n M) (hr : ry T n M i ls t w nw np W L P F) (hc : cy T n G0 c0 O i cs s ns np N Q G) (hb : bz N off voff ph cx c np F ls G cs) (hx : 1 ≤ x ∧ x ≤ 21) (hn : 10000 < nn) (hc0 : c0.length ≤ 1400) (hO : O ≤ 20000) (hs : s ≤ B) (hns : ns ≤ 10000) (hnp : np ≤ 50) (hQ : Q.length ≤ 440) :
    wok (dk_110 nn G (9 + x)) (fun _ K => (∃ ms, i < M ∧ dk_214 F x = some (1, wq_up F 0 25 (i + 1)) ∧ (eg T n M G0 c0 O N off voff ph cx cb F G i ls cs w s nw ns np c t W L P Q (wq_up F 0 25 (i + 1)) K (i + 1) ls ms w s nw ns np c) ∧ px_fr G K) ∨ ∃ k, dk_214 F x = some (0, pm_f F k (tk_pos T n i)) ∧ sx T n G0 c0 O k (tk_pos T n i) N B K) := by
  refine wok_m (bt_wd (B := B) hM hr hc hb hx (by omega) hc0 hO hs hns hnp hQ) fun r K h => ?_
  rcases h with ⟨iM, e, ms, h1, h2, h3, h4⟩ | h
  · exact Or.inl ⟨ms, iM, e, eg_n (ry_nx hr iM) h1 (bz_fu h2 (by omega)) (fun d j q => wq_up_cell (by omega)) (qf_fr h3) h4 (Nat.le_succ _) hnp, h3⟩
  · exact Or.inr h
/-- a sign that may stand there: both take it or leave it -/
theorem e_opt {x B : Nat} (hM : tk_M T n M) (hr : ry T n M i ls t w nw np W L P F) (hc : cy T n G0 c0 O i cs s ns np N Q G) (hb : bz N off voff ph cx c np F ls G cs) (hx : x ∈ lx_signs) (hx2 : x < 2147483648) (hn : 10000 < nn) (hc0 : c0.length ≤ 1400) (hO : O ≤ 20000) (hs : s ≤ B) (hns : ns ≤ 10000) (hnp : np ≤ 50) (hQ : Q.length ≤ 440) :
    wok (dk_111 nn G (lx_sg x)) (fun r K => (∃ ms, r = 1 ∧ i < M ∧ (tk_k T n i = 5 ∧ tk_V T n (tk_pos T n i) = x) ∧ dk_212 F = some (1, wq_up F 0 25 (i + 1)) ∧ (eg T n M G0 c0 O N off voff ph cx cb F G i ls cs w s nw ns np c t W L P Q (wq_up F 0 25 (i + 1)) K (i + 1) ls ms w s nw ns np c) ∧ px_fr G K) ∨ ((tk_k T n i = 5 ∧ tk_V T n (tk_pos T n i) = x) ∧ dk_212 F = some (0, pm_f F 3 (tk_pos T n i)) ∧ r = 1 ∧ sx T n G0 c0 O 3 (tk_pos T n i) N B K) ∨ (r = 0 ∧ ¬ (tk_k T n i = 5 ∧ tk_V T n (tk_pos T n i) = x) ∧ K = G)) := by
  have h57 : G 57 4 = tk_ty T n (tk_pos T n i) := hc.1.2.1.1
  unfold dk_111
  by_cases q : tk_k T n i = 5 ∧ tk_V T n (tk_pos T n i) = x
  · refine wok_t (h57.trans ((tk_ty_sign hx).mpr q)) (wok_f (by decide) (wok_b (e_77 (cb := cb) hM hr hc hb (by omega) (by omega) hn hc0 hO hs hns hnp hQ) fun r K h => wok_r ?_))
    rcases h with ⟨ms, a1, a2, a3, a4⟩ | ⟨a1, a2⟩
    · exact Or.inl ⟨ms, rfl, a1, q, a2, a3, a4⟩
    · exact Or.inr (Or.inl ⟨q, a1, rfl, a2⟩)
  · exact wok_f (fun z => q ((tk_ty_sign hx).mp (h57.symm.trans z))) (wok_t rfl (wok_r (Or.inr (Or.inr ⟨rfl, q, rfl⟩))))
end
