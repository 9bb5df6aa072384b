/-! ===== 99q: the class's small methods where nothing is refused (wip/whole2/law99q.py) ===== -/
section
variable {nn : Nat} {T : Nat → Nat} {n M O : Nat} {G0 : wq_F} {c0 : List (List Nat)} {i t w s nw ns np N : Nat} {off voff ph : Nat → Nat} {cx : Nat → List Nat} {c : List Nat} {W : List (Nat × Nat × Nat × Nat)} {L : List (Nat × Nat)} {P Q : List (Nat × Nat × Nat)} {ls cs : List (List Nat)} {F G : wq_F}

/-- what the class's steps within a stretch leave: code below s, whole numbers below ns, functions, levels -/
def qf (s ns : Nat) (G K : wq_F) : Prop := ∀ c j, (17 ≤ c ∧ c ≤ 23) ∨ (12 ≤ c ∧ c ≤ 15 ∧ j < s) ∨ (c = 16 ∧ j < ns) ∨ c = 62 ∨ c = 65 ∨ c = 61 ∨ c = 60 → K c j = G c j
theorem qf_refl {s ns : Nat} (G : wq_F) : qf s ns G G := fun _ _ _ => rfl
theorem qf_trans {s s' ns ns' : Nat} {A B C : wq_F} (h : qf s ns A B) (g : qf s' ns' B C) (h1 : s ≤ s') (h2 : ns ≤ ns') : qf s ns A C := fun c j a => (g c j (by omega)).trans (h c j a)
theorem qf_fr {s ns : Nat} {G H : wq_F} (h : px_fr G H) : qf s ns G H := fun c j a => h c j (by omega) (by omega) (by omega)
/-- the level -/
theorem cy_lv (hc : cy T n G0 c0 O i cs s ns np N Q G) (hb : bz N off voff ph cx c np F ls G cs) : G 59 8 = N - 1 ∧ N - 1 < 24 ∧ 1 ≤ N ∧ N ≤ 24 := by
  have h1 := hb.1.1
  have h2 := hc.2.1.2.2.2
  omega
theorem cy_78 {op a b ln : Nat} (hc : cy T n G0 c0 O i cs s ns np N Q G) (hb : bz N off voff ph cx c np F ls G cs) (hs : s < 10000) (hok : okj b) : wok (dk_78 G op a b ln) (fun r K => r = s ∧ cy T n G0 c0 O i cs (s + 1) ns np N Q K ∧ bz N off voff ph cx c np F ls K cs ∧ cI K s op a b ln ∧ qf s ns G K ∧ ∀ j, K 56 j = G 56 j) := by
  have h4 := hc.2.1.1
  refine wok_e (dkS_78 (by omega)) ⟨h4, cy_em hc hok, bz_pg hb, ?_, fun c j a => pg_em_ne (by omega) (by omega), fun j => pg_em_ne (by omega) (by omega)⟩
  have e := pg_em_at (G := G) (op := op) (a := a) (b := b) (ln := ln)
  rw [h4] at e
  exact ⟨e.1, e.2.1, e.2.2.1, e.2.2.2.1⟩
/-- an instruction, another height -/
theorem cy_112 {op a ln by' : Nat} {d : List Nat} (hc : cy T n G0 c0 O i cs s ns np N Q G) (hb : bz N off voff ph cx c np F ls G cs) (hs : s < 10000) (hd : hg d = (hg c + by') % 4294967296) (hat : ∀ k, voff (N - 1) ≤ k → k < voff N → cx_at c (G 61 (ph k)) (F 30 k) → cx_at d (G 61 (ph k)) (F 30 k)) (hd2 : ∀ e ∈ d, e < F 14 (G 62 (N - 1)) + 5) : wok (dk_112 G op a ln by') (fun _ K => cy T n G0 c0 O i cs (s + 1) ns np N Q K ∧ bz N off voff ph cx d np F ls K cs ∧ cI K s op a 0 ln ∧ qf s ns G K ∧ ∀ j, K 56 j = G 56 j) := by
  have h4 := hc.2.1.1
  obtain ⟨l1, l2, l3, l4⟩ := cy_lv hc hb
  refine wok_e (dkS_112 l1 l2 (by omega)) ⟨cy_up (cy_em hc (okj_p (by decide))) (by unfold cy_n; omega), ?_, ?_, fun c j a => ?_, fun j => ?_⟩
  · exact bz_pu hb (by rw [bz_hc hb, hd]) hat hd2
  · have e := pg_em_at (G := G) (op := op) (a := a) (b := 0) (ln := ln)
    rw [h4] at e
    exact ⟨by rw [wq_up_cell (by decide)]; exact e.1, by rw [wq_up_cell (by decide)]; exact e.2.1, by rw [wq_up_cell (by decide)]; exact e.2.2.1, by rw [wq_up_cell (by decide)]; exact e.2.2.2.1⟩
  · rw [wq_up_cell (by omega)]
    exact pg_em_ne (by omega) (by omega)
  · rw [wq_up_cell (by omega)]
    exact pg_em_ne (by omega) (by omega)
/-- one value more -/
theorem cy_p1 {op a ln e : Nat} (hc : cy T n G0 c0 O i cs s ns np N Q G) (hb : bz N off voff ph cx c np F ls G cs) (hs : s < 10000) (hh : hg c < 4294967295) (he : e < 5 ∧ ¬ e = 1 ∧ ¬ e = 2) : wok (dk_112 G op a ln 1) (fun _ K => cy T n G0 c0 O i cs (s + 1) ns np N Q K ∧ bz N off voff ph cx (e :: c) np F ls K cs ∧ cI K s op a 0 ln ∧ qf s ns G K ∧ ∀ j, K 56 j = G 56 j) := by
  refine cy_112 hc hb hs ?_ (fun k _ _ h => cx_at_c h) (bz_c0 hb he.1)
  show (if e = 1 then 0 else 1) + hg c = _
  rw [if_neg (by omega), Nat.mod_eq_of_lt (by omega)]
  omega
theorem cy_113 {h : Nat} {d : List Nat} (hc : cy T n G0 c0 O i cs s ns np N Q G) (hb : bz N off voff ph cx c np F ls G cs) (hs : s < 10000) (hd : h = hg d) (hat : ∀ k, voff (N - 1) ≤ k → k < voff N → cx_at c (G 61 (ph k)) (F 30 k) → cx_at d (G 61 (ph k)) (F 30 k)) (hd2 : ∀ e ∈ d, e < F 14 (G 62 (N - 1)) + 5) : wok (dk_113 G h) (fun _ K => cy T n G0 c0 O i cs (s + 1) ns np N Q K ∧ bz N off voff ph cx d np F ls K cs ∧ cI K s 27 h 0 0 ∧ qf s ns G K ∧ ∀ j, K 56 j = G 56 j) := by
  have h4 := hc.2.1.1
  obtain ⟨l1, l2, l3, l4⟩ := cy_lv hc hb
  refine wok_e (dkS_113 l1 l2 (by omega)) ⟨cy_up (cy_em hc (okj_p (by decide))) (by unfold cy_n; omega), ?_, ?_, fun c j a => ?_, fun j => ?_⟩
  · exact bz_pu hb hd hat hd2
  · have e := pg_em_at (G := G) (op := 27) (a := h) (b := 0) (ln := 0)
    rw [h4] at e
    exact ⟨by rw [wq_up_cell (by decide)]; exact e.1, by rw [wq_up_cell (by decide)]; exact e.2.1, by rw [wq_up_cell (by decide)]; exact e.2.2.1, by rw [wq_up_cell (by decide)]; exact e.2.2.2.1⟩
  · rw [wq_up_cell (by omega)]
    exact pg_em_ne (by omega) (by omega)
  · rw [wq_up_cell (by omega)]
    exact pg_em_ne (by omega) (by omega)
theorem cy_162 {h : Nat} {d : List Nat} (hc : cy T n G0 c0 O i cs s ns np N Q G) (hb : bz N off voff ph cx c np F ls G cs) (hd : h = hg d) (hat : ∀ k, voff (N - 1) ≤ k → k < voff N → cx_at c (G 61 (ph k)) (F 30 k) → cx_at d (G 61 (ph k)) (F 30 k)) (hd2 : ∀ e ∈ d, e < F 14 (G 62 (N - 1)) + 5) : wok (dk_162 G h) (fun _ K => cy T n G0 c0 O i cs s ns np N Q K ∧ bz N off voff ph cx d np F ls K cs ∧ qf s ns G K ∧ ∀ j, K 56 j = G 56 j) := by
  obtain ⟨l1, l2, l3, l4⟩ := cy_lv hc hb
  exact wok_e (dkS_162 l1 l2) ⟨cy_up hc (by unfold cy_n; omega), bz_hh hb hd hat hd2, fun c j a => wq_up_cell (by omega), fun j => wq_up_cell (by omega)⟩
theorem cy_163 {h : Nat} {d : List Nat} (hc : cy T n G0 c0 O i cs s ns np N Q G) (hb : bz N off voff ph cx c np F ls G cs) (hd : hg d = (hg c + h) % 4294967296) (hat : ∀ k, voff (N - 1) ≤ k → k < voff N → cx_at c (G 61 (ph k)) (F 30 k) → cx_at d (G 61 (ph k)) (F 30 k)) (hd2 : ∀ e ∈ d, e < F 14 (G 62 (N - 1)) + 5) : wok (dk_163 G h) (fun _ K => cy T n G0 c0 O i cs s ns np N Q K ∧ bz N off voff ph cx d np F ls K cs ∧ qf s ns G K ∧ ∀ j, K 56 j = G 56 j) := by
  obtain ⟨l1, l2, l3, l4⟩ := cy_lv hc hb
  exact wok_e (dkS_163 l1 l2) ⟨cy_up hc (by unfold cy_n; omega), bz_hh hb (by rw [bz_hc hb, hd]) hat hd2, fun c j a => wq_up_cell (by omega), fun j => wq_up_cell (by omega)⟩
theorem cy_84 (hc : cy T n G0 c0 O i cs s ns np N Q G) (hb : bz N off voff ph cx c np F ls G cs) : dk_84 G = some (hg c, G) := by
  obtain ⟨l1, l2, l3, l4⟩ := cy_lv hc hb
  rw [dkS_84 l1 l2, bz_hc hb]
theorem cy_164 (hc : cy T n G0 c0 O i cs s ns np N Q G) (hb : bz N off voff ph cx c np F ls G cs) : dk_164 G = some (G 65 (N - 1), G) := by
  obtain ⟨l1, l2, l3, l4⟩ := cy_lv hc hb
  exact dkS_164 l1 l2
/-- the wholes -/
theorem cy_157 {v : Nat} (hc : cy T n G0 c0 O i cs s ns np N Q G) (hb : bz N off voff ph cx c np F ls G cs) (hs : ns < 10000) : wok (dk_157 G (18446744073709551616 + v)) (fun r K => r = ns ∧ cy T n G0 c0 O i cs s (ns + 1) np N Q K ∧ bz N off voff ph cx c np F ls K cs ∧ K 16 ns = v ∧ qf s ns G K ∧ ∀ j, K 56 j = G 56 j) := by
  have h6 := hc.2.1.2.1
  unfold dk_157
  rw [h6]
  refine wok_t ((wd_slt (by omega) (by decide)).mpr hs) (wok_g hs (wok_u (wok_u (wok_l (wok_r ?_)))))
  rw [show wq_up G 16 ns (18446744073709551616 + v - 18446744073709551616) 11 6 = ns from (wq_up_cell (by decide)).trans h6, Nat.mod_eq_of_lt (show ns + 1 < 4294967296 by omega), wq_up_same, Nat.add_sub_cancel_left]
  refine ⟨by omega, cy_wn hc, bz_gu (bz_gu hb (by omega)) (by omega), ?_, fun c j a => ?_, fun j => ?_⟩
  · rw [wq_up_cell (by decide), wq_up_same]
  · rw [wq_up_cell (by omega), wq_up_ne (by omega)]
  · rw [wq_up_cell (by omega), wq_up_cell (by omega)]
/-- the chain's end is read: what instruction, and what stands there then -/
theorem cy_136 {d : List Nat} (hc : cy T n G0 c0 O i cs s ns np N Q G) (hb : bz N off voff ph cx c np F ls G cs) (hs : s < 10000) (hh : hg c < 4294967295)
    (hd : (G 56 7 = 11 ∧ ∃ x, c = 0 :: 0 :: x ∧ d = 0 :: x) ∨ ((G 56 7 = 5 ∨ G 56 7 = 7 ∨ G 56 7 = 9) ∧ d = 0 :: c) ∨ (2147483648 ≤ G 56 7 ∧ d = c)) :
    wok (dk_136 G) (fun _ K => K 56 7 = 4294967295 ∧ bz N off voff ph cx d np F ls K cs ∧ qf s ns G K ∧ ((G 56 7 = 11 ∧ cy T n G0 c0 O i cs (s + 1) ns np N Q K ∧ cI K s 11 0 0 (G 56 9)) ∨ ((G 56 7 = 5 ∨ G 56 7 = 7 ∨ G 56 7 = 9) ∧ cy T n G0 c0 O i cs (s + 1) ns np N Q K ∧ cI K s (G 56 7) (G 56 8) 0 0) ∨ (2147483648 ≤ G 56 7 ∧ cy T n G0 c0 O i cs s ns np N Q K))) := by
  unfold dk_136
  rcases hd with ⟨h7, x, e1, e2⟩ | ⟨h7, e2⟩ | ⟨h7, e2⟩
  · refine wok_t h7 (wok_b (cy_112 (d := d) hc hb hs ?_ ?_ ?_) fun r K h => wok_u (wok_r ?_))
    · rw [e1, e2, hg_0, hg_0, hg_0]
      rw [e1, hg_0, hg_0] at hh
      omega
    · intro k _ _ h
      rw [e1] at h
      rw [e2]
      exact cx_at_dn (a := [0]) (fun e he => by rw [List.mem_singleton.mp he]; decide) h
    · rw [e2]
      exact bz_cd hb (a := [0]) e1
    · obtain ⟨k1, k2, k3, k4, k5⟩ := h
      refine ⟨wq_up_same _ _ _ _, bz_gu k2 (by omega), fun c j a => (wq_up_ne (by omega)).trans (k4 c j a), Or.inl ⟨h7, cy_up k1 (by unfold cy_n; omega), ?_⟩⟩
      exact ⟨by rw [wq_up_cell (by decide)]; exact k3.1, by rw [wq_up_cell (by decide)]; exact k3.2.1, by rw [wq_up_cell (by decide)]; exact k3.2.2.1, by rw [wq_up_cell (by decide)]; exact k3.2.2.2⟩
  · refine wok_f (by omega) (wok_f (by omega) (wok_b (cy_p1 (e := 0) hc hb hs hh (by decide)) fun r K h => wok_u (wok_r ?_)))
    obtain ⟨k1, k2, k3, k4, k5⟩ := h
    rw [e2]
    refine ⟨wq_up_same _ _ _ _, bz_gu k2 (by omega), fun c j a => (wq_up_ne (by omega)).trans (k4 c j a), Or.inr (Or.inl ⟨h7, cy_up k1 (by unfold cy_n; omega), ?_⟩)⟩
    exact ⟨by rw [wq_up_cell (by decide)]; exact k3.1, by rw [wq_up_cell (by decide)]; exact k3.2.1, by rw [wq_up_cell (by decide)]; exact k3.2.2.1, by rw [wq_up_cell (by decide)]; exact k3.2.2.2⟩
  · refine wok_f (by omega) (wok_t h7 (wok_u (wok_r ?_)))
    rw [e2]
    exact ⟨wq_up_same _ _ _ _, bz_gu hb (by omega), fun c j a => wq_up_ne (by omega), Or.inr (Or.inr ⟨h7, cy_up hc (by unfold cy_n; omega)⟩)⟩
/-- the stopped class, from a state where nothing was refused -/
theorem sx_in {k p B : Nat} {H : wq_F} (hc : cy T n G0 c0 O i cs s ns np N Q G) (hb : bz N off voff ph cx c np F ls G cs) (hp : ps_at k p (1 + lc T p) H) (hf : px_fs G H) (hi : i ≤ 1501) (hs : s ≤ B) (hns : ns ≤ 10000) (hnf : np ≤ 50) (hQ : Q.length ≤ 440) : sx T n G0 c0 O k p N B H := by
  obtain ⟨l1, l2, l3, l4⟩ := cy_lv hc hb
  have h1 := hb.1.1
  refine sx_of hc hp hf hi hs hns hnf ⟨l3, l4⟩ ?_ hQ (fun l hl => ?_)
  · rw [h1.2.2.2.2.2.2.1]
    exact h1.2.2.2.2.2.2.2.2
  · rw [(hb.1.2.1 l hl).2.2.1]
    exact Nat.le_trans (sc_mono (f := off) (N := N) (fun l hl => (hb.1.2.1 l hl).1) (Nat.le_of_lt hl) (Nat.le_refl _)) h1.2.2.2.2.2.2.2.2
/-! both sides at a token -/
/-- both take it, or it is one too much -/
theorem bt_77 {B : Nat} (hM : tk_M T n M) (hr : ry T n M i ls t w nw np W L P F) (hc : cy T n G0 c0 O i cs s ns np N Q G) (hb : bz N off voff ph cx c np F ls G cs) (h6 : ¬ tk_k T n i = 6) (h7 : ¬ tk_k T n i = 7) (hn : 6002 < nn) (hc0 : c0.length ≤ 1400) (hO : O ≤ 20000) (hs : s ≤ B) (hns : ns ≤ 10000) (hnf : np ≤ 50) (hQ : Q.length ≤ 440) :
    wok (dk_77 nn G) (fun _ K => (i < M ∧ dk_212 F = some (1, wq_up F 0 25 (i + 1)) ∧ ∃ ms, cy T n G0 c0 O (i + 1) ms s ns np N Q K ∧ bz N off voff ph cx c np F ls K ms ∧ px_fr G K ∧ st_pre cs ms) ∨ (dk_212 F = some (0, pm_f F 3 (tk_pos T n i)) ∧ sx T n G0 c0 O 3 (tk_pos T n i) N B K)) := by
  have hM1 := hM.1
  have hi := hr.1.2.2.1
  rcases pt_take (nn := nn) hM ⟨hr.1, hc.1⟩ h6 h7 hn hc0 hO with ⟨H, ms, a1, a2, a3, a4, a5⟩ | ⟨H, a1, a2, a3, a4⟩
  · exact wok_e a2 (Or.inl ⟨a3.1.2.2.1, a1, ms, cy_nx hc a3.2 a4, bz_nx hb a4 a5, a4, a5⟩)
  · exact wok_e a2 (Or.inr ⟨a1, sx_in hc hb a3 a4 (by omega) hs hns hnf hQ⟩)
theorem bt_sg {x B : Nat} (hM : tk_M T n M) (hr : ry T n M i ls t w nw np W L P F) (hc : cy T n G0 c0 O i cs s ns np N Q G) (hb : bz N off voff ph cx c np F ls G cs) (hx : x ∈ lx_signs) (hx2 : x < 2147483648) (hn : 6002 < nn) (hc0 : c0.length ≤ 1400) (hO : O ≤ 20000) (hs : s ≤ B) (hns : ns ≤ 10000) (hnf : np ≤ 50) (hQ : Q.length ≤ 440) :
    wok (dk_110 nn G (lx_sg x)) (fun _ K => (i < M ∧ dk_213 F x = some (1, wq_up F 0 25 (i + 1)) ∧ ∃ ms, cy T n G0 c0 O (i + 1) ms s ns np N Q K ∧ bz N off voff ph cx c np F ls K ms ∧ px_fr G K ∧ st_pre cs ms) ∨ ∃ k, (dk_213 F x = some (0, pm_f F k (tk_pos T n i)) ∧ sx T n G0 c0 O k (tk_pos T n i) N B K)) := by
  have hM1 := hM.1
  have hi := hr.1.2.2.1
  rcases pt_needSign (nn := nn) hM ⟨hr.1, hc.1⟩ hx hx2 hn hc0 hO with ⟨H, ms, a1, a2, a3, a4, a5⟩ | ⟨H, k, a1, a2, a3, a4⟩
  · exact wok_e a2 (Or.inl ⟨a3.1.2.2.1, a1, ms, cy_nx hc a3.2 a4, bz_nx hb a4 a5, a4, a5⟩)
  · exact wok_e a2 (Or.inr ⟨k, a1, sx_in hc hb a3 a4 (by omega) hs hns hnf hQ⟩)
theorem bt_wd {x B : Nat} (hM : tk_M T n M) (hr : ry T n M i ls t w nw np W L P F) (hc : cy T n G0 c0 O i cs s ns np N Q G) (hb : bz N off voff ph cx c np F ls G cs) (hx : 1 ≤ x ∧ x ≤ 21) (hn : 6002 < nn) (hc0 : c0.length ≤ 1400) (hO : O ≤ 20000) (hs : s ≤ B) (hns : ns ≤ 10000) (hnf : np ≤ 50) (hQ : Q.length ≤ 440) :
    wok (dk_110 nn G (9 + x)) (fun _ K => (i < M ∧ dk_214 F x = some (1, wq_up F 0 25 (i + 1)) ∧ ∃ ms, cy T n G0 c0 O (i + 1) ms s ns np N Q K ∧ bz N off voff ph cx c np F ls K ms ∧ px_fr G K ∧ st_pre cs ms) ∨ ∃ k, (dk_214 F x = some (0, pm_f F k (tk_pos T n i)) ∧ sx T n G0 c0 O k (tk_pos T n i) N B K)) := by
  have hM1 := hM.1
  have hi := hr.1.2.2.1
  rcases pt_needWord (nn := nn) hM ⟨hr.1, hc.1⟩ hx hn hc0 hO with ⟨H, ms, a1, a2, a3, a4, a5⟩ | ⟨H, k, a1, a2, a3, a4⟩
  · exact wok_e a2 (Or.inl ⟨a3.1.2.2.1, a1, ms, cy_nx hc a3.2 a4, bz_nx hb a4 a5, a4, a5⟩)
  · exact wok_e a2 (Or.inr ⟨k, a1, sx_in hc hb a3 a4 (by omega) hs hns hnf hQ⟩)
/-- both refuse it -/
theorem bt_wr {B : Nat} (hM : tk_M T n M) (hr : ry T n M i ls t w nw np W L P F) (hc : cy T n G0 c0 O i cs s ns np N Q G) (hb : bz N off voff ph cx c np F ls G cs) (hs : s ≤ B) (hns : ns ≤ 10000) (hnf : np ≤ 50) (hQ : Q.length ≤ 440) :
    dk_211 F = some (0, pm_f F (tk_wr T n i) (tk_pos T n i)) ∧ wok (dk_109 G 2) (fun _ K => sx T n G0 c0 O (tk_wr T n i) (tk_pos T n i) N B K) := by
  have hM1 := hM.1
  have hi := hr.1.2.2.1
  obtain ⟨H, a1, a2, a3, a4⟩ := pt_wrong hM ⟨hr.1, hc.1⟩
  exact ⟨a1, wok_e a2 (sx_in hc hb a3 a4 (by omega) hs hns hnf hQ)⟩
theorem bt_f3 {B : Nat} (hM : tk_M T n M) (hr : ry T n M i ls t w nw np W L P F) (hc : cy T n G0 c0 O i cs s ns np N Q G) (hb : bz N off voff ph cx c np F ls G cs) (hs : s ≤ B) (hns : ns ≤ 10000) (hnf : np ≤ 50) (hQ : Q.length ≤ 440) :
    dk_209 F 3 (tk_pos T n i) = some (0, pm_f F 3 (tk_pos T n i)) ∧ wok (dk_109 G 3) (fun _ K => sx T n G0 c0 O 3 (tk_pos T n i) N B K) := by
  have hM1 := hM.1
  have hi := hr.1.2.2.1
  obtain ⟨H, a1, a2, a3, a4⟩ := pt_fail3 hM ⟨hr.1, hc.1⟩
  exact ⟨a1, wok_e a2 (sx_in hc hb a3 a4 (by omega) hs hns hnf hQ)⟩
end
