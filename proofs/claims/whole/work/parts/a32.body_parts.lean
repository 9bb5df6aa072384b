/-! ===== a32: frames of locals; self; the stopped class in a body (wip/whole2/lawa32.py) ===== -/
theorem hg_lcs : ∀ {m s : Nat}, hg (lcs s m) = m
  | 0, _ => rfl
  | m + 1, s => by
    show hg ((s + m + 5) :: lcs s m) = m + 1
    rw [hg_3 (by omega), hg_lcs]
theorem mem_lcs : ∀ {m s e : Nat}, e ∈ lcs s m → s + 5 ≤ e ∧ e < s + m + 5
  | 0, _, e, h => absurd h (List.not_mem_nil)
  | m + 1, s, e, h => by
    rcases List.mem_cons.mp h with z | z
    · omega
    · have := mem_lcs z
      omega
theorem cx_lcs : ∀ {m s j : Nat}, j < m → cx_at (lcs s m) j (s + j)
  | 0, _, _, h => absurd h (Nat.not_lt_zero _)
  | m + 1, s, j, h => by
    by_cases q : j = m
    · rw [q]
      exact ⟨[], lcs s m, rfl, hg_lcs⟩
    · exact cx_at_c (cx_lcs (by omega))
theorem fs_c {c : List Nat} {x : Nat} (h : fs c) (hx : ∀ e ∈ c, e < x) : fs (x :: c) := by
  intro a y b e hy
  cases a with
  | nil =>
    injection e with e1 e2
    rw [← e1, ← e2]
    exact hx
  | cons z a =>
    injection e with e1 e2
    exact h a y b e2 hy
theorem fs_dn {c : List Nat} : ∀ {a : List Nat}, fs (a ++ c) → fs c := fun {a} h x y b e hy => h (a ++ x) y b (by rw [e, List.append_assoc]) hy
theorem fs_nil : fs [] := fun a y b e _ => by
  cases a <;> cases e
theorem fs_lcs : ∀ {m s : Nat}, fs (lcs s m)
  | 0, _ => fs_nil
  | m + 1, s => fs_c fs_lcs (fun e he => by have := mem_lcs he; omega)
theorem wok_b2 {m : Option (Nat × wq_F)} {f g : Nat × wq_F → Option (Nat × wq_F)} {A C : Nat → wq_F → Prop} (h : wok (m.bind f) A) (k : ∀ r K, A r K → wok (g (r, K)) C) : wok (m.bind fun y => (f y).bind g) C := by
  have e : (m.bind fun y => (f y).bind g) = (m.bind f).bind g := (Option.bind_assoc ..).symm
  rw [e]
  exact wok_b h k
section
variable {nn : Nat} {T : Nat → Nat} {n M O : Nat} {G0 : wq_F} {c0 : List (List Nat)} {i t w s nw ns np N : Nat} {off voff ph : Nat → Nat} {cx : Nat → List Nat} {c cb : List Nat} {W : List (Nat × Nat × Nat × Nat)} {L : List (Nat × Nat)} {P Q : List (Nat × Nat × Nat)} {ls cs : List (List Nat)} {F G : wq_F}

/-- the stopped class at a block -/
theorem sx_80 {k d e p B : Nat} (h : sx T n G0 c0 O e p N B G) (hk : 1 ≤ k) (hn : 10000 < nn) : wok (dk_R nn k 80 [d] G) (fun _ K => sx T n G0 c0 O e p N B K) := by
  obtain ⟨k, rfl⟩ : ∃ m, k = m + 1 := ⟨k - 1, by omega⟩
  rw [dk_Re_80]
  unfold dk_80
  obtain ⟨m, hm⟩ : ∃ m, nn = m + 1 := ⟨nn - 1, by omega⟩
  have e2 : dk_80_2 (dk_R nn k) nn nn G d 0 = dk_80_2b (dk_R nn k) nn (dk_80_2 (dk_R nn k) nn m) G d 0 := by
    rw [show dk_80_2 (dk_R nn k) nn nn = dk_80_2 (dk_R nn k) nn (m + 1) by rw [← hm]]
    rfl
  rw [e2]
  unfold dk_80_2b
  refine wok_f (by decide) (wok_b (sx_79 h) fun r K h => ?_)
  dsimp only
  exact wok_t h.1 (wok_f (sx_ne h.2 (by decide)) (wok_r h.2))
theorem sx_b4 {e p B v4 : Nat} (h : sx T n G0 c0 O e p (N + 1) B G) (hN : 1 ≤ N) (hB : B + 1 < 10000) (hj : v4 < 10000) (hn : 10000 < nn) : wok ((dk_84 G).bind fun y37 => (dk_78 y37.2 20 y37.1 0 0).bind fun y41 => (dk_110 nn y41.2 15).bind fun y45 => (dk_160 y45.2).bind fun y49 => (dk_159 nn y49.2 v4).bind fun y53 => (dk_163 y53.2 1).bind fun y57 => some (0, y57.2)) (fun _ K => sx T n G0 c0 O e p N (B + 1) K) := by
  refine wok_b (sx_84 h) fun r K h => ?_
  refine wok_b (sx_78 h (by omega) (okj_p (by decide))) fun r K h => ?_
  refine wok_b (sx_110 h.2 (by decide)) fun r K h => ?_
  refine wok_b (sx_160 h hN) fun r K h => ?_
  refine wok_b (sx_159 h hB (okj_p hj) hn) fun r K h => ?_
  exact wok_b (sx_163 h) fun r K h => wok_r h
theorem sx_b3 {k d e p B v3 v4 a : Nat} (h : sx T n G0 c0 O e p (N + 1) B G) (hN : 1 ≤ N) (hB : B + 2 < 10000) (hj : v4 < 10000) (hn : 10000 < nn) (hk : 1 ≤ k) (ha : a ≤ 1200) (hv3 : v3 < 50) : wok ((dk_167 nn G a 0).bind fun y13 => od_let (((y13.2 59 3) + (4294967296 - a)) % 4294967296) fun y17 => od_g (v3 < 50) <| od_up y13.2 18 v3 y17 fun F21 => od_g (v3 < 50) <| (dk_162 F21 (F21 18 v3)).bind fun y25 => (dk_78 y25.2 0 0 0 0).bind fun y29 => (dk_R nn k 80 [d] y29.2).bind fun y33 => (dk_84 y33.2).bind fun y37 => (dk_78 y37.2 20 y37.1 0 0).bind fun y41 => (dk_110 nn y41.2 15).bind fun y45 => (dk_160 y45.2).bind fun y49 => (dk_159 nn y49.2 v4).bind fun y53 => (dk_163 y53.2 1).bind fun y57 => some (0, y57.2)) (fun _ K => sx T n G0 c0 O e p N (B + 2) K) := by
  refine wok_b (sx_167 h ha hn) fun r K h => ?_
  dsimp only
  refine wok_l (wok_g hv3 (wok_u (wok_g hv3 ?_)))
  refine wok_b (sx_162 (sx_up h (by omega))) fun r K h => ?_
  refine wok_b (sx_78 h (by omega) (okj_p (by decide))) fun r K h => ?_
  refine wok_b (sx_80 h.2 hk hn) fun r K h => ?_
  exact sx_b4 h hN (by omega) hj hn
/-- a method's own name: self -/
theorem body_self {sf f : Nat} {g1 g2 : wq_F → Option (Nat × wq_F)} (hM : tk_M T n M) (hr : ry T n M i ls t w nw np W L P F) (hc : cy T n G0 c0 O i cs s ns np N Q G) (hp : pq N off voff ph cx np f 0 F ls G cs) (hnp : np ≤ 50) (hn : 10000 < nn) (hsf : sf < 2) :
    ∃ v H K ls', v ≤ 1 ∧ (if 0 < sf ∧ sf < 2147483648 then od_up F 0 20 0 fun F60 => (dk_21 nn F60 18446744075645578342).bind fun y63 => (dk_22 nn y63.2 0).bind fun y67 => (dk_210 y67.2).bind fun y71 => (dk_219 y71.2 y71.1).bind fun y75 => (dk_220 y75.2 y67.1 y75.1).bind fun y79 => g1 y79.2 else g1 F) = g1 H ∧ (if sf = 0 then g2 G else (dk_166 G (G 56 12)).bind fun y20 => g2 y20.2) = g2 K ∧ ry T n M i ls' t w nw np W L P H ∧ cy T n G0 c0 O i cs s ns np N Q K ∧ pq N off voff ph cx np f v H ls' K cs ∧ rm_fr F H ∧ st_sf ls ls' ∧ pa_f f (voff N) F H ∧ pa_g f (off N) G K := by
  by_cases q : sf = 0
  · refine ⟨0, F, G, ls, by omega, by rw [if_neg (by omega)], by rw [if_pos q], hr, hc, hp, rm_fr_refl _, st_sf_refl _, ⟨fun _ _ _ _ _ _ => rfl, rfl⟩, fun _ _ _ _ _ _ _ _ => rfl⟩
  · obtain ⟨⟨n1, n2, n3⟩, ⟨n4, n5⟩, n6, ⟨n7, n8⟩, ⟨n9, n10⟩, ⟨n11, n12⟩, n13⟩ := pq_n hp hnp
    rw [if_pos (show 0 < sf ∧ sf < 2147483648 by omega), if_neg q]
    obtain ⟨u, H, ls', e1, r1, f1, x1, v1, v2, v3⟩ := re_self (nn := nn) (g := fun y67 => (dk_210 y67.2).bind fun y71 => (dk_219 y71.2 y71.1).bind fun y75 => (dk_220 y75.2 y67.1 y75.1).bind fun y79 => g1 y79.2) hr hp.1.2.2.2.2.2.2.2 hn
    have hx : ∀ d j, 9 ≤ d → H d j = F d j := fun d j a => x1 d j (by omega) (by omega)
    have h50 : H 0 50 = F 0 50 := x1 0 50 (fun _ => by decide) (by decide)
    have h53 : H 0 53 = F 0 53 := x1 0 53 (fun _ => by decide) (by decide)
    have p1 : pq N off voff ph cx np f 0 H ls' G cs := by
      obtain ⟨p1, ⟨p2, p3, p4⟩, p5, p6⟩ := hp
      refine ⟨bz_ls p1 ⟨fun d hd => funext fun j => ((wq_up_cell (by omega)).trans (hx d j (by omega))).trans (wq_up_cell (by omega)).symm, (wq_up_same _ _ _ _).trans (wq_up_same _ _ _ _).symm, ((wq_up_at (by decide)).trans h53).trans (wq_up_at (by decide)).symm⟩ v3, ⟨h50.trans p2, p3, (hx 14 f (by decide)).trans p4⟩, p5, fun j hj => absurd hj (Nat.not_lt_zero _)⟩
    have h6 := hc.2.2.2.1
    have g1' := hc.1.2.2.2.2.2.2.1 (G 56 12) h6.1
    have g2' := hc.1.2.2.2.2.2.2.2.1
    have hp1 := pq_new (nr := u) (nc := G 56 12) p1 (by decide) v1 (by omega) (v2.trans (g1'.trans h6.2).symm)
    refine ⟨1, pa_F H f (voff N + 0) 0 u, hd_up G f (off N + 0) (G 56 12), ls', by omega, ?_, ?_, ?_, ?_, hp1, ?_, v3, ?_, ?_⟩
    · rw [e1]
      dsimp only
      rw [pm_here hM r1.1, od_bS]
      dsimp only
      have p4 := p1.2.1.2.2
      rw [dkS_219 (f := f) (by rw [h53]; omega) (by rw [h53, hx 32 _ (by decide)]; exact n10) (by omega) (by omega) r1.1.1, p4, if_pos (by decide), od_bS]
      dsimp only
      rw [dkS_220 (b := voff N + 0) ((wq_up_cell (by decide)).trans p1.2.1.1) (by omega), od_bS]
      rfl
    · rw [dkS_166 (f := f) (a := off N + 0) (by omega) n4 n5 n6 (by rw [n7]; exact n12) n11 (by omega), n7, if_pos (by decide), od_bS]
    · exact ry_x r1 (fun d j z => pa_F_c (fun y => z (by unfold ry_n; omega)) (fun y => z (by unfold ry_n; omega)) (fun y => z (by unfold ry_n; omega)))
    · exact cy_up (cy_up (cy_up (cy_up hc (by unfold cy_n; omega)) (by unfold cy_n; omega)) (by unfold cy_n; omega)) (by unfold cy_n; omega)
    · exact rm_fr_x f1 (fun d j a b e => pa_F_c (by omega) (by omega) (by omega)) ⟨pa_F_c (by omega) (by omega) (by omega), pa_F_c (by omega) (by omega) (by omega), pa_F_c (by omega) (by omega) (by omega)⟩
    · exact ⟨fun d j q1 q2 q3 q4 => (pa_F_c q2 (by omega) (by omega)).trans (hx d j (by omega)), (pa_F_c (by omega) (by omega) (by omega)).trans h53⟩
    · exact fun d j q1 q2 q3 q4 q5 q6 => hd_cell q3 (by omega) q6
end
