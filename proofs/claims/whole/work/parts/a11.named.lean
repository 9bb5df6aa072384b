/-! ===== a11: fields with a name (wip/whole2/lawa11.py) ===== -/
section
variable {nn : Nat} {T : Nat → Nat} {n M O : Nat} {G0 : wq_F} {c0 : List (List Nat)} {i t w s nw ns np N : Nat} {off voff ph : Nat → Nat} {cx : Nat → List Nat} {c cb : List Nat} {W : List (Nat × Nat × Nat × Nat)} {L : List (Nat × Nat)} {P Q : List (Nat × Nat × Nat)} {ls cs : List (List Nat)} {F G : wq_F}

/-- name = value -/
theorem kvB {k pos m : Nat} {Fb : wq_F} {mm : Option (Nat × wq_F)} (hM : tk_M T n M) (hE : E_ok nn T n M G0 c0 O (t + 2)) (hk : 20 * (22 - (t + 2)) + 21 ≤ k) (hD : t ≤ 19)
    (hgo : ∀ H, rgo nn F mm H → rm_to nn F H ∧ rm_fr F H) (hba : ∀ k p, rba nn F mm k p → rm_out nn k p F) (hd : mm = (dk_212 Fb).bind fun y30 => if y30.1 = 0 then some (0, y30.2) else (dk_212 y30.2).bind fun y35 => if y35.1 = 0 then some (0, y35.2) else some (1, y35.2)) (hfb : rm_fr F Fb) (hxb : ∀ d j, 12 ≤ d ∧ d ≤ 24 → ¬ (20 ≤ d ∧ d ≤ 23 ∧ j = w) → Fb d j = F d j) (h20 : Fb 20 w = 5) (h21 : Fb 21 w < ls.length ∧ ls.getD (Fb 21 w) [] = tk_B T n (tk_pos T n i))
    (hr : ry T n M i ls (t + 1) (w + 1) nw np ((3, 0, 0, 0) :: (17, 0, pos, m) :: W) L P Fb) (hc : cy T n G0 c0 O i cs s ns np N Q G) (hb : bz N off voff ph cx (0 :: c) np Fb ls G cs) (hn : 10000 < nn) (hc0 : c0.length ≤ 1400) (hO : O ≤ 20000) (hB : bnd i w s nw ns np (t + 1) (hg (0 :: c)) ((17, 0, pos, m) :: W) L P Q N) (hkk : tk_nm T n i) :
    wok (dk_R nn k 153 [t] G) (fun _ K => kvp nn T n M G0 c0 O N off voff ph cx cb F F G i ls cs w s nw ns np (0 :: c) c t pos m W L P Q K ∨ ∃ e p, rm_out nn e p F ∧ sx T n G0 c0 O e p N (zz (t + 2) + 75) K) := by
  have hB0 := hB
  obtain ⟨m1, m2, m3, m4, m5, m6, m7, m8, m9, m10, m11, m12⟩ := hB0
  have m8 : W.length + 1 ≤ 20 * (t + 1) + 20 := m8
  have h62 := hb.2.2.2.2.2.1
  have hM1 := hM.1
  have hiM := hr.1.2.2.1
  have hN := hb.1.1.1
  obtain ⟨q1, q2, q3, q4⟩ := hkk
  have hz : zz (t + 2) + 220 ≤ zz t ∧ 6310 ≤ zz (t + 2) ∧ zz t < 9800 := by unfold zz; omega
  have h57 : G 57 4 = 2 := hc.1.2.1.1.trans (tk_ty_kind.1.mpr q1)
  obtain ⟨sn, v1, v2, v3⟩ := hc.1.2.2.2.2.1 (Or.inl q1)
  have hsl : cs.length ≤ c0.length + i + 1 := hc.1.2.2.2.2.2.1.2.2.1
  have hh0 : hg (0 :: c) = hg c + 1 := hg_0
  obtain ⟨k, rfl⟩ : ∃ m, k = m + 1 := ⟨k - 1, by omega⟩
  have e111 : dk_111 nn G 55 = some (0, G) := by
    unfold dk_111
    rw [if_neg (by omega), if_pos rfl]
  rw [dk_Re_153]
  unfold dk_153
  rw [e111, od_bS]
  dsimp only
  refine wok_t rfl ?_
  have t135 : wok (dk_135 G) (fun _ K => cy T n G0 c0 O i cs (s + 1) ns np N Q K ∧ bz N off voff ph cx (4 :: 0 :: c) np Fb ls K cs ∧ cI K s 4 sn 0 (G 57 6) ∧ qf s ns G K ∧ ∀ j, K 56 j = G 56 j) := by
    unfold dk_135
    refine wok_t h57 ?_
    rw [v1, tb_l2i (show sn < 4294967296 by omega)]
    exact wok_b (cy_p1 (e := 4) hc hb (by omega) (by omega) (by decide)) fun r K h => wok_r h
  refine wok_b t135 fun r1 K1 h1 => ?_
  dsimp only
  obtain ⟨c1, b1, i1, u1, _⟩ := h1
  have tl : ∀ (e p B : Nat) (K : wq_F), sx T n G0 c0 O e p N B K → B + 1 ≤ zz (t + 2) + 75 → rm_out nn e p F → wok (dk_153_43 (dk_R nn k) nn K t (G 57 6)) (fun _ K => kvp nn T n M G0 c0 O N off voff ph cx cb F F G i ls cs w s nw ns np (0 :: c) c t pos m W L P Q K ∨ ∃ e p, rm_out nn e p F ∧ sx T n G0 c0 O e p N (zz (t + 2) + 75) K) := fun e p B K h hB ho => wok_m (sx_43 h (by omega) (by omega)) fun r K h => Or.inr ⟨e, p, ho, sx_le h (by omega)⟩
  refine wok_b (bt_77 (B := 6200) hM hr c1 b1 (by omega) (by omega) (by omega) hc0 hO (by omega) (by omega) m5 (by omega)) fun r2 K2 h2 => ?_
  dsimp only
  rcases h2 with ⟨iM, e2, ms, c2, b2, f2, p2⟩ | ⟨e2, hx⟩
  · rw [e2, od_bS] at hd
    dsimp only at hd
    rw [if_neg (by decide)] at hd
    have hr2 := ry_nx hr iM
    have b2' : bz N off voff ph cx (4 :: 0 :: c) np (wq_up Fb 0 25 (i + 1)) ls K2 ms := bz_fu b2 (by omega)
    have f2' : rm_fr F (wq_up Fb 0 25 (i + 1)) := rm_fr_up hfb (by decide) (by decide)
    have x2 : ∀ d j, ¬ d = 0 → wq_up Fb 0 25 (i + 1) d j = Fb d j := fun d j q => wq_up_cell q
    generalize wq_up Fb 0 25 (i + 1) = F2 at *
    have k57 : K2 57 4 = 49 := c2.1.2.1.1.trans ((tk_ty_sign (c := 61) (by decide)).mpr ⟨q3, q4⟩)
    unfold dk_153_43
    refine wok_b (bt_110 (x := 49) (B := 6200) hM hr2 c2 b2' k57 (by omega) (by omega) hn hc0 hO (by omega) (by omega) m5 (by omega)) fun r3 K3 h3 => ?_
    dsimp only
    rcases h3 with ⟨iM3, e3, ms3, c3, b3, f3, p3⟩ | ⟨e3, hx⟩
    · rw [e3, od_bS] at hd
      dsimp only at hd
      have hr3 := ry_nx hr2 iM3
      have b3' : bz N off voff ph cx (4 :: 0 :: c) np (wq_up F2 0 25 (i + 1 + 1)) ls K3 ms3 := bz_fu b3 (by omega)
      have g3 := hgo _ (rgo_i (hd.trans (if_neg (by decide))) (by decide) hr3.1.1 (rm_fr_up f2' (by decide) (by decide)))
      have x3 : ∀ d j, ¬ d = 0 → wq_up F2 0 25 (i + 1 + 1) d j = Fb d j := fun d j q => (wq_up_cell q).trans (x2 d j q)
      have q3' : qf (s + 1) ns K1 K3 := qf_trans (qf_fr f2) (qf_fr f3) (Nat.le_refl _) (Nat.le_refl _)
      have q0 : qf s ns G K3 := qf_trans u1 q3' (by omega) (Nat.le_refl _)
      have ege : eg T n M G0 c0 O N off voff ph cx cb F G i ls cs w s nw ns np (0 :: c) (t + 1) _ L P Q (wq_up F2 0 25 (i + 1 + 1)) K3 (i + 1 + 1) ls ms3 (w + 1) (s + 1) nw ns np (4 :: 0 :: c) := ⟨hr3, c3, b3', pj_1 ⟨by omega, by omega, by omega, by omega⟩ (fun d j q => (x3 d j (by omega)).trans (hxb d j (by omega) (by omega))) (fun d j q => q0 d j (by omega)) (fun H J nm ha2 hb2 hnm => Or.inl ⟨28, by
        rw [ha2.1 20 w (by decide) (by decide) (by omega) (by omega), x3 20 w (by decide)]; exact h20, by
        rw [hb2.1 12 s (by decide) (by decide) (by omega) (by omega), q3' 12 s (by omega)]; exact i1.1, by
        rw [ha2.1 21 w (by decide) (by decide) (by omega) (by omega), x3 21 w (by decide), hb2.1 13 s (by decide) (by decide) (by omega) (by omega), q3' 13 s (by omega), i1.2.1]
        exact nmr_up hnm (st_pre_refl _) (st_pre_trans p2 p3) _ _ h21.1 v2 (h21.2.trans v3.symm), rfl⟩), ⟨st_sf_refl _, st_pre_trans p2 p3, ⟨fun l _ => ⟨q0 62 l (by omega), q0 65 l (by omega)⟩, fun l _ e6 h6 => q0 e6 l (by omega)⟩⟩, by omega, m5⟩
      have hg4 : hg (4 :: 0 :: c) = hg c + 2 := by rw [hg_3 (by decide), hg_0]
      refine wok_m (kv_end (cb := cb) (D := t) (v2 := G 57 6) hM hE (by omega) rfl hD hr3 c3 b3' hn hc0 hO ⟨by omega, by omega, by omega, by omega, m5, m6, by omega, by show W.length + 1 ≤ _; omega, m9, m10, m11, m12⟩ (Or.inr rfl)) fun r K h => ?_
      rcases h with h | ⟨e, p, ho2, hx⟩
      · obtain ⟨i1', w1, s1, nw1, ns1, np1, ls1, cs1, H1, K0, a1, a2, a3, a4, a5, a6, ⟨z1, z2, z3, z4, z5⟩⟩ := h
        exact Or.inl ⟨i1', w1, s1, nw1, ns1, np1, ls1, cs1, H1, K0, 4, 0, G 57 6, ⟨rm_trans g3.1 a1.1, rm_fr_trans g3.2 a1.2⟩, eg_t ege a2 h62, a3, a4, a5, a6, Or.inr rfl, by omega, by omega, by omega, by omega, by omega⟩
      · exact Or.inr ⟨e, p, rm_to_out g3.1 g3.2 ho2, sx_le hx (by omega)⟩
    · rw [e3, od_bS] at hd
      have ho2 := hba _ _ (rba_f (hd.trans (if_pos rfl)) f2' (by rw [hr2.2.1.2.1]; omega))
      refine wok_b (sx_148 hx (by omega)) fun r K h => ?_
      exact wok_b (sx_112 h.2 (by omega)) fun r K h => wok_r (Or.inr ⟨_, _, ho2, sx_le h (by omega)⟩)
  · rw [e2, od_bS] at hd
    exact tl _ _ _ _ hx (by omega) (hba _ _ (rba_f (hd.trans (if_pos rfl)) hfb (by rw [hr.2.1.2.1]; omega)))
/-- a name with =, but one token too much: the class alone -/
theorem kvO {k D : Nat} (hM : tk_M T n M) (hr : ry T n M i ls t w nw np W L P F) (hc : cy T n G0 c0 O i cs s ns np N Q G) (hb : bz N off voff ph cx c np F ls G cs) (hk : 2 ≤ k) (hn : 10000 < nn) (hc0 : c0.length ≤ 1400) (hO : O ≤ 20000) (hkk : tk_k T n i = 1) (hi : i = 1500) (hs : s ≤ 6190) (hns : ns ≤ 10000) (hnf : np ≤ 50) (hQ : Q.length ≤ 440) (hh : hg c < 100000) :
    wok (dk_R nn k 153 [D] G) (fun _ K => sx T n G0 c0 O 3 (tk_pos T n i) N 6202 K) := by
  have hiM := hr.1.2.2.1
  have hM1 := hM.1
  have h57 : G 57 4 = 2 := hc.1.2.1.1.trans (tk_ty_kind.1.mpr hkk)
  obtain ⟨k, rfl⟩ : ∃ m, k = m + 1 := ⟨k - 1, by omega⟩
  have e111 : dk_111 nn G 55 = some (0, G) := by
    unfold dk_111
    rw [if_neg (by omega), if_pos rfl]
  rw [dk_Re_153]
  unfold dk_153
  rw [e111, od_bS]
  dsimp only
  refine wok_t rfl ?_
  have t135 : wok (dk_135 G) (fun _ K => cy T n G0 c0 O i cs (s + 1) ns np N Q K ∧ bz N off voff ph cx (4 :: c) np F ls K cs) := by
    unfold dk_135
    refine wok_t h57 ?_
    exact wok_b (cy_p1 (e := 4) hc hb (by omega) (by omega) (by decide)) fun r K h => wok_r ⟨h.1, h.2.1⟩
  refine wok_b t135 fun r1 K1 h1 => ?_
  dsimp only
  refine wok_b (bt_77 (B := 6200) hM hr h1.1 h1.2 (by omega) (by omega) (by omega) hc0 hO (by omega) hns hnf hQ) fun r2 K2 h2 => ?_
  dsimp only
  rcases h2 with ⟨iM, _⟩ | ⟨_, hx⟩
  · omega
  · exact wok_m (sx_43 hx (by decide) (by omega)) fun r K h => sx_le h (by decide)
end
