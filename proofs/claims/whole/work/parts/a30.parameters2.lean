/-! ===== a30: the parameters, all (wip/whole2/lawa30.py) ===== -/
section
variable {nn : Nat} {T : Nat → Nat} {n M O : Nat} {G0 : wq_F} {c0 : List (List Nat)} {i t w s nw ns np N : Nat} {off voff ph : Nat → Nat} {cx : Nat → List Nat} {c cb : List Nat} {W : List (Nat × Nat × Nat × Nat)} {L : List (Nat × Nat)} {P Q : List (Nat × Nat × Nat)} {ls cs : List (List Nat)} {F G : wq_F}

variable {f v B : Nat}
theorem pa_out {g b x : Nat} : dk_156_38 nn (g + 1) G f b 0 x = dk_156_117 nn G f b := by
  show dk_156_38b nn (dk_156_38 nn g) G f b 0 x = _
  unfold dk_156_38b
  by_cases q : ev_s 50 < ev_s x
  · rw [if_pos q]
  · rw [if_neg q, if_pos rfl]
theorem pa_117 : dk_156_117 nn G f 0 = some (0, G) := by
  unfold dk_156_117
  rw [if_pos rfl]
theorem pa_r0 {g : Nat} : dk_254_16 nn (g + 1) F f 0 = dk_213 F 41 := by
  show dk_254_16b nn (dk_254_16 nn g) F f 0 = _
  unfold dk_254_16b
  rw [if_pos rfl, od_bI]
/-- the stopped class leaves the loop -/
theorem sx_156_74 {g a k p : Nat} (h : sx T n G0 c0 O k p N B G) : wok (dk_156_74 nn (dk_156_38 nn (g + 1)) G f 0 a 0) (fun _ K => sx T n G0 c0 O k p N B K) := by
  unfold dk_156_74
  rw [if_pos rfl, od_letS, pa_out, pa_117]
  exact wok_r h
theorem sx_156_38 {g a k p : Nat} (h : sx T n G0 c0 O k p N B G) : wok (dk_156_38 nn (g + 2) G f 0 1 a) (fun _ K => sx T n G0 c0 O k p N B K) := by
  show wok (dk_156_38b nn (dk_156_38 nn (g + 1)) G f 0 1 a) _
  unfold dk_156_38b
  refine wok_i (fun _ => by rw [pa_117]; exact wok_r h) (fun _ => wok_f (by decide) ?_)
  refine wok_b (sx_124 h) fun r K h => ?_
  dsimp only
  refine wok_b (sx_77 h) fun r K h => ?_
  dsimp only
  exact wok_f (sx_ne h (by decide)) (sx_156_74 h)
/-- the names of the parameters -/
theorem pa_loop (hM : tk_M T n M) (hn : 10000 < nn) (hc0 : c0.length ≤ 1400) (hO : O ≤ 20000) (hs : s ≤ B) (hns : ns ≤ 10000) (hnp : np ≤ 50) (hQ : Q.length ≤ 440) (hw : w < 13990) : ∀ (m v x g g' i : Nat) (cs : List (List Nat)) (F G : wq_F), v + m = 51 → x ≤ v → m < g → m < g' → ry T n M i ls t w nw np W L P F → cy T n G0 c0 O i cs s ns np N Q G → pq N off voff ph cx np f v F ls G cs → ¬ (tk_k T n i = 5 ∧ tk_V T n (tk_pos T n i) = 301) → 1 ≤ m → wok ((dk_156_38 nn g G f 0 1 x).bind fun y => dk_110 nn y.2 52) (fun _ K => (∃ i' v' ms H, dk_254_16 nn g' F f 1 = some (1, H) ∧ ry T n M i' ls t w nw np W L P H ∧ cy T n G0 c0 O i' ms s ns np N Q K ∧ pq N off voff ph cx np f v' H ls K ms ∧ (st_pre cs ms ∧ (i ≤ i' ∧ i + v' ≤ i' + v) ∧ rm_fr F H) ∧ pa_f f (voff N) F H ∧ pa_g f (off N) G K) ∨ ∃ k p H, dk_254_16 nn g' F f 1 = some (0, pm_f H k p) ∧ rm_fr F H ∧ H 0 41 < 13999 ∧ sx T n G0 c0 O k p N B K) := by
  intro m
  induction m with
  | zero => intro v x g g' i cs F G _ _ _ _ _ _ _ _ h1; exact absurd h1 (by decide)
  | succ m ih =>
    intro v x g g' i cs F G hv hx0 hg1 hg2 hr hc hp hk _
    obtain ⟨g, rfl⟩ : ∃ a, g = a + 2 := ⟨g - 2, by omega⟩
    obtain ⟨g', rfl⟩ : ∃ a, g' = a + 2 := ⟨g' - 2, by omega⟩
    obtain ⟨_, ⟨_, n5⟩, _⟩ := pq_n hp hnp
    have h57 : G 57 4 = tk_ty T n (tk_pos T n i) := hc.1.2.1.1
    have hw2 : F 0 41 < 13999 := by rw [hr.2.1.2.1]; omega
    have hM1 := hM.1
    have hiM := hr.1.2.2.1
    have hd : dk_254_16 nn (g' + 2) F f 1 = if tk_k T n i = 1 then (dk_210 F).bind fun y13 => (dk_219 y13.2 y13.1).bind fun y17 => if 2147483648 ≤ y17.1 then some (0, y17.2) else od_g (y17.2 0 25 < 1502) <| od_let (18446744073709551616 + y17.2 11 (y17.2 0 25)) fun y23 => (dk_220 y17.2 (ev_oL2i y23) y17.1).bind fun y26 => (dk_212 y26.2).bind fun y30 => if y30.1 = 0 then some (0, y30.2) else (dk_36 y30.2 44).bind fun y35 => if y35.1 = 0 then dk_254_16 nn (g' + 1) y35.2 f y35.1 else (dk_212 y35.2).bind fun y40 => if y40.1 = 0 then some (0, y40.2) else dk_254_16 nn (g' + 1) y40.2 f y35.1 else dk_211 F := by
      show dk_254_16b nn (dk_254_16 nn (g' + 1)) F f 1 = _
      unfold dk_254_16b
      rw [if_neg (by decide), pm_isSign hM hr.1 (by decide), od_bS]
      dsimp only
      rw [if_ck, if_neg hk, od_g1 (pm_b hM hr.1)]
      have kk := pm_kind hr.1
      by_cases q : tk_k T n i = 1
      · rw [if_pos (kk.trans q), if_pos q]
      · rw [if_neg (fun z => q (kk.symm.trans z)), if_neg q, od_bI]
    -- stopped before the next token
    have stop : ∀ (k p : Nat) (H K0 : wq_F), dk_254_16 nn (g' + 2) F f 1 = some (0, pm_f H k p) → rm_fr F H → H 0 41 < 13999 → sx T n G0 c0 O k p N B K0 → wok ((if (K0 57 4) = 59 then dk_156_74 nn (dk_156_38 nn (g + 1)) K0 f 0 x 1 else dk_156_74 nn (dk_156_38 nn (g + 1)) K0 f 0 x 0).bind fun y => dk_110 nn y.2 52) (fun _ K => (∃ i' v' ms H, dk_254_16 nn (g' + 2) F f 1 = some (1, H) ∧ ry T n M i' ls t w nw np W L P H ∧ cy T n G0 c0 O i' ms s ns np N Q K ∧ pq N off voff ph cx np f v' H ls K ms ∧ (st_pre cs ms ∧ (i ≤ i' ∧ i + v' ≤ i' + v) ∧ rm_fr F H) ∧ pa_f f (voff N) F H ∧ pa_g f (off N) G K) ∨ ∃ k p H, dk_254_16 nn (g' + 2) F f 1 = some (0, pm_f H k p) ∧ rm_fr F H ∧ H 0 41 < 13999 ∧ sx T n G0 c0 O k p N B K) := fun k p H K0 e1 e2 e3 hx => by
      rw [if_neg (sx_ne hx (by decide))]
      refine wok_b (sx_156_74 hx) fun r K h => ?_
      dsimp only
      exact wok_m (sx_110 h (by decide)) fun r K h => Or.inr ⟨k, p, H, e1, e2, e3, h⟩
    show wok ((dk_156_38b nn (dk_156_38 nn (g + 1)) G f 0 1 x).bind _) _
    unfold dk_156_38b
    rw [if_neg (fun z => by have := (wd_slt (by decide) (by omega)).mp z; omega), if_neg (by decide), Option.bind_assoc]
    by_cases q1 : tk_k T n i = 1
    · obtain ⟨sn, v1, v2, v3⟩ := hc.1.2.2.2.2.1 (Or.inl q1)
      have hsl : cs.length ≤ c0.length + i + 1 := hc.1.2.2.2.2.2.1.2.2.1
      have vr := (hr.1.2.2.2.2.2.1 i (by omega)).2.2.2 (Or.inl q1)
      rw [if_pos q1, pa_ref hM hr hp hnp q1] at hd
      rw [pa_cls hp hnp (h57.trans (tk_ty_kind.1.mpr q1)) v1 (by omega)]
      by_cases q : v < 50
      · rw [if_pos q] at hd
        dsimp only at hd
        rw [if_pos q, od_bS]
        dsimp only
        rw [Option.bind_assoc]
        have hr1 : ry T n M i ls t w nw np W L P (pa_F F f (voff N + v) v (F 11 i)) := ry_x hr (fun d j z => pa_F_c (fun y => z (by unfold ry_n; omega)) (fun y => z (by unfold ry_n; omega)) (fun y => z (by unfold ry_n; omega)))
        have hc1 : cy T n G0 c0 O i cs s ns np N Q (hd_up G f (off N + v) sn) := cy_up (cy_up (cy_up (cy_up hc (by unfold cy_n; omega)) (by unfold cy_n; omega)) (by unfold cy_n; omega)) (by unfold cy_n; omega)
        have hp1 := pq_new hp q vr.1 v2 (vr.2.1.trans v3.symm)
        have xf1 : pa_f f (voff N) F (pa_F F f (voff N + v) v (F 11 i)) := ⟨fun d j q1 q2 q3 q4 => pa_F_c q2 (by omega) (by omega), pa_F_c (by omega) (by omega) (by omega)⟩
        have xg1 : pa_g f (off N) G (hd_up G f (off N + v) sn) := fun d j q1 q2 q3 q4 q5 q6 => hd_cell q3 (by omega) q6
        have ff1 : rm_fr F (pa_F F f (voff N + v) v (F 11 i)) := rm_fr_x (rm_fr_refl _) (fun d j a b e => pa_F_c (by omega) (by omega) (by omega)) ⟨pa_F_c (by omega) (by omega) (by omega), pa_F_c (by omega) (by omega) (by omega), pa_F_c (by omega) (by omega) (by omega)⟩
        generalize pa_F F f (voff N + v) v (F 11 i) = F1 at *
        generalize hd_up G f (off N + v) sn = G1 at *
        refine wok_b (pa_77 hM hr1 hc1 hp1 (by omega) (by omega) hn hc0 hO hs hns hnp hQ) fun r1 K1 h1 => ?_
        dsimp only
        rcases h1 with ⟨iM, e2, ms, r2, c2, p2, f2, s2⟩ | ⟨e2, hx⟩
        · rw [e2, od_bS] at hd
          dsimp only at hd
          rw [if_neg (by decide), pm_isSign hM r2.1 (by decide), od_bS] at hd
          dsimp only at hd
          have ff2 : rm_fr F (wq_up F1 0 25 (i + 1)) := rm_fr_up ff1 (by decide) (by decide)
          have xf2 : pa_f f (voff N) F (wq_up F1 0 25 (i + 1)) := pa_f_t xf1 (pa_f_0 (by decide))
          have xg2 : pa_g f (off N) G K1 := pa_g_t xg1 (pa_g_fr f2)
          generalize wq_up F1 0 25 (i + 1) = F2 at *
          have k57 : K1 57 4 = tk_ty T n (tk_pos T n (i + 1)) := c2.1.2.1.1
          by_cases q2 : tk_k T n (i + 1) = 5 ∧ tk_V T n (tk_pos T n (i + 1)) = 44
          · simp only [if_pos q2] at hd
            rw [if_neg (by decide)] at hd
            rw [if_pos (show K1 57 4 = 59 from k57.trans ((tk_ty_sign (c := 44) (by decide)).mpr q2))]
            unfold dk_156_74
            rw [if_neg (by decide), Option.bind_assoc]
            refine wok_b (pa_77 hM r2 c2 p2 (by omega) (by omega) hn hc0 hO hs hns hnp hQ) fun r3 K3 h3 => ?_
            dsimp only
            rcases h3 with ⟨iM3, e3, ms3, r3, c3, p3, f3, s3⟩ | ⟨e3, hx⟩
            · rw [e3, od_bS] at hd
              dsimp only at hd
              rw [if_neg (by decide)] at hd
              have ff3 : rm_fr F (wq_up F2 0 25 (i + 1 + 1)) := rm_fr_up ff2 (by decide) (by decide)
              have xf3 : pa_f f (voff N) F (wq_up F2 0 25 (i + 1 + 1)) := pa_f_t xf2 (pa_f_0 (by decide))
              have xg3 : pa_g f (off N) G K3 := pa_g_t xg2 (pa_g_fr f3)
              generalize wq_up F2 0 25 (i + 1 + 1) = F3 at *
              have k573 : K3 57 4 = tk_ty T n (tk_pos T n (i + 1 + 1)) := c3.1.2.1.1
              have fin : wok ((if (K3 57 4) = 65 then dk_156_100 nn (dk_156_38 nn (g + 1)) K3 f x 1 else dk_156_100 nn (dk_156_38 nn (g + 1)) K3 f x 0).bind fun y => dk_110 nn y.2 52) (fun _ K => (∃ i' v' ms H, dk_254_16 nn (g' + 1) F3 f 1 = some (1, H) ∧ ry T n M i' ls t w nw np W L P H ∧ cy T n G0 c0 O i' ms s ns np N Q K ∧ pq N off voff ph cx np f v' H ls K ms ∧ (st_pre ms3 ms ∧ ((i + 1 + 1) ≤ i' ∧ (i + 1 + 1) + v' ≤ i' + (v + 1)) ∧ rm_fr F3 H) ∧ pa_f f (voff N) F3 H ∧ pa_g f (off N) K3 K) ∨ ∃ k p H, dk_254_16 nn (g' + 1) F3 f 1 = some (0, pm_f H k p) ∧ rm_fr F3 H ∧ H 0 41 < 13999 ∧ sx T n G0 c0 O k p N B K) := by
                by_cases q3 : tk_k T n (i + 1 + 1) = 5 ∧ tk_V T n (tk_pos T n (i + 1 + 1)) = 301
                · rw [if_pos (show K3 57 4 = 65 from k573.trans ((tk_ty_sign (c := 301) (by decide)).mpr q3))]
                  unfold dk_156_100
                  rw [if_neg (by decide), od_letS, pa_out, show dk_254_16 nn (g' + 1) F3 f 1 = dk_254_16b nn (dk_254_16 nn g') F3 f 1 from rfl]
                  exact pa_dots hM r3 c3 p3 hn hc0 hO hs hns hnp hQ hw q3
                · rw [if_neg (show ¬ K3 57 4 = 65 from fun z => q3 ((tk_ty_sign (c := 301) (by decide)).mp (k573.symm.trans z)))]
                  unfold dk_156_100
                  rw [if_pos rfl, od_letS, Nat.mod_eq_of_lt (show x + 1 < 4294967296 by omega)]
                  exact ih (v + 1) (x + 1) (g + 1) (g' + 1) (i + 1 + 1) ms3 F3 K3 (by omega) (by omega) (by omega) (by omega) r3 c3 p3 q3 (by omega)
              refine wok_m fin fun r K h => ?_
              rcases h with ⟨i', v', ms', H, e, r4, c4, p4, ⟨s4, i4, f4⟩, xf4, xg4⟩ | ⟨k, p, H, e, f4, w4, hx⟩
              · exact Or.inl ⟨i', v', ms', H, hd.trans e, r4, c4, p4, ⟨st_pre_trans s2 (st_pre_trans s3 s4), ⟨by omega, by omega⟩, rm_fr_trans ff3 f4⟩, pa_f_t xf3 xf4, pa_g_t xg3 xg4⟩
              · exact Or.inr ⟨k, p, H, hd.trans e, rm_fr_trans ff3 f4, w4, hx⟩
            · rw [e3, od_bS] at hd
              dsimp only at hd
              rw [if_pos rfl] at hd
              rw [if_neg (sx_ne hx (by decide))]
              unfold dk_156_100
              rw [if_pos rfl, od_letS]
              obtain ⟨g, rfl⟩ : ∃ a, g = a + 1 := ⟨g - 1, by omega⟩
              refine wok_b (sx_156_38 hx) fun r K h => ?_
              dsimp only
              exact wok_m (sx_110 h (by decide)) fun r K h => Or.inr ⟨3, tk_pos T n (i + 1), F2, hd, ff2, by rw [r2.2.1.2.1]; omega, h⟩
          · simp only [if_neg q2] at hd
            rw [if_pos trivial, pa_r0] at hd
            rw [if_neg (show ¬ K1 57 4 = 59 from fun z => q2 ((tk_ty_sign (c := 44) (by decide)).mp (k57.symm.trans z)))]
            unfold dk_156_74
            rw [if_pos rfl, od_letS, pa_out, pa_117, od_bS]
            dsimp only
            refine wok_m (pa_sg hM r2 c2 p2 hn hc0 hO hs hns hnp hQ hw) fun r K h => ?_
            rcases h with ⟨i', v', ms', H, e, r4, c4, p4, ⟨s4, i4, f4⟩, xf4, xg4⟩ | ⟨k, p, H, e, f4, w4, hx⟩
            · exact Or.inl ⟨i', v', ms', H, hd.trans e, r4, c4, p4, ⟨st_pre_trans s2 s4, ⟨by omega, by omega⟩, rm_fr_trans ff2 f4⟩, pa_f_t xf2 xf4, pa_g_t xg2 xg4⟩
            · exact Or.inr ⟨k, p, H, hd.trans e, rm_fr_trans ff2 f4, w4, hx⟩
        · rw [e2, od_bS] at hd
          dsimp only at hd
          rw [if_pos rfl] at hd
          exact stop 3 _ F1 K1 hd ff1 (by rw [hr1.2.1.2.1]; omega) hx
      · rw [if_neg q] at hd
        rw [if_neg q, Option.bind_assoc]
        refine wok_b (pa_f3 hM hr hc hp hs hns hnp hQ) fun r1 K1 hx => ?_
        dsimp only
        rw [od_bS]
        dsimp only
        rw [Option.bind_assoc]
        refine wok_b (sx_77 hx) fun r2 K2 hx => ?_
        dsimp only
        exact stop 3 _ F K2 hd (rm_fr_refl _) hw2 hx
    · rw [if_neg q1] at hd
      obtain ⟨a1, a2⟩ := pa_wr (B := B) hM hr hc hp hs hns hnp hQ
      refine wok_b (A := fun _ K => sx T n G0 c0 O (tk_wr T n i) (tk_pos T n i) N B K) ?_ fun r1 K1 hx => ?_
      · unfold dk_124
        exact wok_f (fun z => q1 (tk_ty_kind.1.mp (h57.symm.trans z))) (wok_b a2 fun r K h => wok_r h)
      dsimp only
      rw [Option.bind_assoc]
      refine wok_b (sx_77 hx) fun r2 K2 hx => ?_
      dsimp only
      exact stop _ _ F K2 (hd.trans a1) (rm_fr_refl _) hw2 hx
/-- the parameters, behind the ( -/
theorem pa_all (hM : tk_M T n M) (hn : 10000 < nn) (hc0 : c0.length ≤ 1400) (hO : O ≤ 20000) (hs : s ≤ B) (hns : ns ≤ 10000) (hnp : np ≤ 50) (hQ : Q.length ≤ 440) (hw : w < 13990) (hr : ry T n M i ls t w nw np W L P F) (hc : cy T n G0 c0 O i cs s ns np N Q G) (hp : pq N off voff ph cx np f v F ls G cs) (hv : v ≤ 1) : wok ((dk_156 nn G f).bind fun y => dk_110 nn y.2 52) (fun _ K => (∃ i' v' ms H, dk_254 nn F f = some (1, H) ∧ ry T n M i' ls t w nw np W L P H ∧ cy T n G0 c0 O i' ms s ns np N Q K ∧ pq N off voff ph cx np f v' H ls K ms ∧ (st_pre cs ms ∧ (i ≤ i' ∧ i + v' ≤ i' + v) ∧ rm_fr F H) ∧ pa_f f (voff N) F H ∧ pa_g f (off N) G K) ∨ ∃ k p H, dk_254 nn F f = some (0, pm_f H k p) ∧ rm_fr F H ∧ H 0 41 < 13999 ∧ sx T n G0 c0 O k p N B K) := by
  obtain ⟨_, ⟨_, n5⟩, _⟩ := pq_n hp hnp
  have hM1 := hM.1
  have hiM := hr.1.2.2.1
  have h57 : G 57 4 = tk_ty T n (tk_pos T n i) := hc.1.2.1.1
  obtain ⟨m, rfl⟩ : ∃ m, nn = m + 2 := ⟨nn - 2, by omega⟩
  have hd : dk_254 (m + 2) F f = if tk_k T n i = 5 ∧ tk_V T n (tk_pos T n i) = 41 then dk_213 F 41 else dk_254_16 (m + 2) (m + 2) F f 1 := by
    unfold dk_254
    rw [pm_isSign hM hr.1 (by decide), od_bS]
    dsimp only
    rw [if_ck]
    by_cases q : tk_k T n i = 5 ∧ tk_V T n (tk_pos T n i) = 41
    · rw [if_pos q, if_pos q]
      unfold dk_213
      rw [pm_isSign hM hr.1 (by decide), od_bS]
      dsimp only
      rw [if_ck, if_pos q]
    · rw [if_neg q, if_neg q]
  have hd2 : ¬ (tk_k T n i = 5 ∧ tk_V T n (tk_pos T n i) = 41) → ¬ (tk_k T n i = 5 ∧ tk_V T n (tk_pos T n i) = 301) → ¬ tk_k T n i = 1 → dk_254 (m + 2) F f = dk_213 F 41 := fun a b c => by
    rw [hd, if_neg a]
    show dk_254_16b (m + 2) (dk_254_16 (m + 2) (m + 1)) F f 1 = _
    unfold dk_254_16b dk_213
    rw [if_neg (by decide), pm_isSign hM hr.1 (by decide), od_bS]
    dsimp only
    rw [if_ck, if_neg b, od_g1 (pm_b hM hr.1), if_neg (fun z => c ((pm_kind hr.1).symm.trans z)), pm_isSign hM hr.1 (by decide), od_bS]
    dsimp only
    rw [if_ck, if_neg a]
  unfold dk_156
  by_cases q1 : tk_k T n i = 5 ∧ tk_V T n (tk_pos T n i) = 301
  · rw [if_pos (show G 57 4 = 65 from h57.trans ((tk_ty_sign (c := 301) (by decide)).mpr q1))]
    unfold dk_156_17
    rw [if_neg (fun z => by have : tk_k T n i = 1 := tk_ty_kind.1.mp (h57.symm.trans z); omega), pa_out]
    have hd3 : dk_254 (m + 2) F f = dk_254_16b (m + 2) (dk_254_16 (m + 2) (m + 1)) F f 1 := hd.trans (if_neg (by omega))
    rw [hd3]
    exact pa_dots hM hr hc hp hn hc0 hO hs hns hnp hQ hw q1
  · rw [if_neg (show ¬ G 57 4 = 65 from fun z => q1 ((tk_ty_sign (c := 301) (by decide)).mp (h57.symm.trans z)))]
    unfold dk_156_17
    by_cases q2 : tk_k T n i = 1
    · rw [if_pos (h57.trans (tk_ty_kind.1.mpr q2)), hd, if_neg (by omega)]
      exact pa_loop hM hn hc0 hO hs hns hnp hQ hw (51 - v) v 0 (m + 2) (m + 2) i cs F G (by omega) (by omega) (by omega) (by omega) hr hc hp q1 (by omega)
    · rw [if_neg (fun z => q2 (tk_ty_kind.1.mp (h57.symm.trans z))), pa_out, pa_117, od_bS]
      dsimp only
      by_cases q3 : tk_k T n i = 5 ∧ tk_V T n (tk_pos T n i) = 41
      · rw [hd, if_pos q3]
        exact pa_sg hM hr hc hp hn hc0 hO hs hns hnp hQ hw
      · rw [hd2 q3 q1 q2]
        exact pa_sg hM hr hc hp hn hc0 hO hs hns hnp hQ hw
end
