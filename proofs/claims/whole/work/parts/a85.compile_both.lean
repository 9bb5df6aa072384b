/-! ===== a85: compile of both: refused alike, or read alike (wip/whole2/lawa85.py) ===== -/
theorem take_ext : ∀ {b a : List (List Nat)}, b.length ≤ a.length → (∀ s, s < b.length → a.getD s [] = b.getD s []) → a.take b.length = b
  | [], a, _, _ => rfl
  | x :: b, [], h, _ => absurd h (Nat.not_succ_le_zero _)
  | x :: b, y :: a, h, g => by
    have e0 : y = x := g 0 (Nat.succ_pos _)
    have e1 : a.take b.length = b := take_ext (Nat.le_of_succ_le_succ h) (fun s hs => g (s + 1) (Nat.succ_lt_succ hs))
    show y :: a.take b.length = x :: b
    rw [e0, e1]
/-- what the class holds between two calls, as far as compile needs it: the fixed strings b in front -/
def cgood (f sfi : Nat) (b : List (List Nat)) (G : wq_F) : Prop := ∃ cs, cs.length ≤ 3000 ∧ cs_ok G cs ∧ G 2 10 = f ∧ f ≤ G 2 11 ∧ G 2 11 ≤ cs.length ∧ cs.take f = b ∧ (∀ j, j < 10000 → okj (G 14 j)) ∧ G 56 12 = sfi
def cfix (f O sfi : Nat) (b : List (List Nat)) : Prop := b.length = f ∧ f ≤ 1400 ∧ cs_w b ∧ st_off b f ≤ O ∧ O ≤ 20000 ∧ sfi < f ∧ b.getD sfi [] = sf_b
/-- the same of the reference -/
def rgood (bm op : Nat) (b : List (List Nat)) (F : wq_F) : Prop := ∃ ls, ls.length ≤ 3000 ∧ rs_ok F ls ∧ F 0 65 = bm ∧ F 0 66 = op ∧ bm ≤ ls.length ∧ ls.take bm = b
def rfix (bm op O : Nat) (b : List (List Nat)) : Prop := b.length = bm ∧ bm ≤ 1400 ∧ op = st_off b bm ∧ op ≤ O
theorem compile_both {nn n O f sfi bm op : Nat} {T : Nat → Nat} {F G : wq_F} {b br : List (List Nat)} (hn : 14000 < nn) (hn6 : n ≤ 6000) (hC : ∀ i, i < n → T i < 256) (hcf : cfix f O sfi b) (hrf : rfix bm op O br) (hcg : cgood f sfi b G) (hrg : rgood bm op br F) (hT : ∀ i, i < n → G 1 i = ev_b8 (T i)) (hGn : G 0 8 = n) (hF1 : F 1 = T) (hF2 : F 0 2 = n) :
    ∃ r K, dk_76 nn (wq_up G 0 9 0) n = some (r, K) ∧ (∀ c j, c ≤ 1 ∨ (24 ≤ c ∧ c ≤ 55) ∨ 67 ≤ c ∨ (c = 2 ∧ j = 10) ∨ (c = 56 ∧ j = 12) → K c j = wq_up G 0 9 0 c j) ∧ ((∃ M A ms D, tk_M T n M ∧ rt_ok T n A (M + 1) ms ∧ (∀ s, s < f → D 9 s = if G 9 s = 1 then 1 else 2) ∧ (∃ i' w' s' nw' ns' np' ls' cs' H c' off' voff' ph', (∃ k, ∀ g, dk_24x nn (g + k) F = (dk_38 nn (wq_up (wq_up (wq_up (rm_z H) 0 15 (rm_z H 0 14)) 0 16 (wq_up (rm_z H) 0 15 (rm_z H 0 14) 0 8)) 0 3 1)).bind fun y23 => some (y23.2 0 34, y23.2)) ∧ (ry T n M i' ls' 0 w' nw' np' [] [] [] H ∧ cy T n D (b) O i' cs' (s' + 1) ns' np' 1 [] K ∧ bz 1 off' voff' ph' (fun _ => []) c' np' H ls' K cs') ∧ tk_k T n i' = 6 ∧ (st_sf ms ls' ∧ st_pre (b) cs' ∧ rm_fr A H) ∧ (w' ≤ 6 * i' + 1 ∧ s' ≤ 4 * i' + 1 ∧ nw' ≤ i' ∧ ns' ≤ i' ∧ np' ≤ 50 ∧ hg c' ≤ 2 * i') ∧ r = 0 ∧ K 62 0 = 0 ∧ ∀ (nm : Nat → Nat → Prop) (X : pt → Prop), nmr ls' cs' nm → sg (rm_z H) K nm X (0, 0, 0, []))) ∨
      ∃ e p H k, ¬ e = 0 ∧ p ≤ n ∧ dk_48 nn G = some (ev_oNeg e, wq_up (wq_up K 0 10 p) 0 11 (1 + lc T p)) ∧ cgood f sfi b (wq_up (wq_up K 0 10 p) 0 11 (1 + lc T p)) ∧ (∀ g, dk_24x nn (g + k) F = some (ev_oNeg e, wq_up H 0 6 (1 + lc T p))) ∧ rgood bm op br (wq_up H 0 6 (1 + lc T p)) ∧ H 0 4 = e ∧ H 0 5 = p ∧ (∀ i, H 1 i = T i) ∧ H 0 2 = n) := by
  obtain ⟨b1, b2, b3, b4, b5, b6, b7⟩ := hcf
  obtain ⟨d1, d2, d3, d4⟩ := hrf
  obtain ⟨cs, c1, c2, c3, c4, c5, c6, c7, c8⟩ := hcg
  obtain ⟨ls, l1, l2, l3, l4, l5, l6⟩ := hrg
  have hfl : f ≤ cs.length := Nat.le_trans c4 c5
  have hop : st_off ls bm = op := by rw [← st_take_off l5 (Nat.le_refl _), l6, d3]
  obtain ⟨M, A, ms, hM, ⟨g0, g1, g2⟩, hrt, hrs, hlsb, hpre, hlen, hx, hfr, hgo⟩ := ref_front (nn := nn) (O := O) (by omega) hF1 hF2 hn6 hC l3 d2 l1 l2 l5 (l4.trans hop.symm) (by rw [hop]; exact d4) b5
  have z : ∀ c j, c ≠ 0 → wq_up G 0 9 0 c j = G c j := fun c j h => wq_up_cell h
  have hself : cs.getD sfi [] = sf_b := by rw [← st_take_get b6 hfl, c6]; exact b7
  obtain ⟨r, K, e76, ⟨⟨D, hD, hcase⟩, hfrm⟩, hq⟩ := judge_all (F := A) (ls := ms) (cs := cs) (G := wq_up G 0 9 0) (f := f) (u := G 2 11) (O := O) hM (by omega) hn b5 g0 g1 g2 hrt hrs hlsb c1 (cs_ok_up c2 ⟨z 2 8 (by decide), z 2 9 (by decide)⟩ (fun c hc _ => funext fun j => z c j (by omega))) ((z 2 10 (by decide)).trans c3) (z 2 11 (by decide)) c4 c5 b2 (by rw [c6]; exact b3) (by rw [← st_take_off hfl (Nat.le_refl _), c6]; exact b4) (fun i hi => (z 1 i (by decide)).trans (hT i hi)) (by rw [z 56 12 (by decide), c8]; exact ⟨b6, hself⟩) (fun j hj => by rw [z 14 j (by decide)]; exact c7 j hj)
  refine ⟨r, K, e76, hfrm, ?_⟩
  rcases hcase with hgood | ⟨e, p, e1, e2, ⟨k, H, e3, e4, e5, e6⟩, e7⟩
  · refine Or.inl ⟨M, A, ms, D, hM, hrt, fun s hs => by rw [hD s hs, z 9 s (by decide)], ?_⟩
    obtain ⟨i', w', s', nw', ns', np', ls', cs', H, c', off', voff', ph', ⟨k, a1⟩, a2⟩ := hgood
    rw [c6] at a2
    refine ⟨i', w', s', nw', ns', np', ls', cs', H, c', off', voff', ph', ⟨k, fun g => ?_⟩, a2⟩
    rw [hgo, a1 g, od_bS]
    dsimp only
    rw [if_neg (by decide), od_upS, od_upS, od_upS]
  · have ps := e7.1
    have hp : p ≤ n := by
      rcases hq.2 with y | y
      · exact absurd (ps.2.1.symm.trans y) e2
      · rw [ps.2.2.2.1] at y
        exact y
    have hH1 : H 1 = T := (funext fun i => e6.1 i).trans g1
    have hH2 : H 0 2 = n := e6.2.1.trans g2
    refine Or.inr ⟨e, p, H, k, e2, hp, ?_, ?_, fun g => ?_, ?_, e4, e5, fun i => by rw [hH1], hH2⟩
    · unfold dk_48 dk_49
      rw [od_upS, od_bS]
      dsimp only
      rw [show wq_up G 0 9 0 0 8 = n by rw [wq_up_at (by decide)]; exact hGn, e76, od_bS]
      dsimp only
      rw [if_neg (by rw [e1]; exact e2), ps.2.2.2.1, od_upS, show wq_up K 0 10 p 56 6 = 1 + lc T p by rw [wq_up_cell (by decide)]; exact ps.2.2.2.2, od_upS, e1]
    · have y : ∀ c j, c ≠ 0 → wq_up (wq_up K 0 10 p) 0 11 (1 + lc T p) c j = K c j := fun c j h => (wq_up_cell h).trans (wq_up_cell h)
      obtain ⟨i, cs', hi, ⟨s1, s2, s3, s4, s5, s6⟩, ⟨t1, t2, t3, t4, t5, t6⟩⟩ := e7.2.1
      have hlb : (cs.take f).length = f := st_take_len hfl
      refine ⟨cs', by omega, cs_ok_up s1 ⟨y 2 8 (by decide), y 2 9 (by decide)⟩ (fun c hc _ => funext fun j => y c j (by omega)), ?_, ?_, ?_, ?_, fun j hj => ?_, ?_⟩
      · rw [y 2 10 (by decide), hfrm 2 10 (by omega), z 2 10 (by decide)]
        exact c3
      · rw [y 2 11 (by decide), t6]
        omega
      · rw [y 2 11 (by decide), t6]
        exact Nat.le_refl _
      · have w := take_ext (b := b) (a := cs') (by omega) (fun s hs => by rw [t1 s (by omega), c6])
        rw [b1] at w
        exact w
      · rw [y 14 j (by decide)]
        exact e7.2.2.2.1 j hj
      · rw [y 56 12 (by decide), hfrm 56 12 (by omega), z 56 12 (by decide)]
        exact c8
    · rw [hgo, e3 g, od_bS]
      dsimp only
      rw [if_pos rfl, e5, dkS_196 hH2 hn6 hp, od_bS, hH1]
      dsimp only
      rw [od_upS, wq_up_at (by decide), e4]
    · obtain ⟨ms', m1, m2⟩ := e6.2.2 ms hrs
      have hm : lsb ms' := by
        obtain ⟨l0, x, y⟩ := hlsb
        exact ⟨l0, x, st_sf_trans y m2⟩
      have hml := lsb_len hm m1
      have hgm : gm A H := ge1_29x (nn := nn) (g := 0 + k) (0, H) (e3 0)
      have hl2 : ms.length ≤ ms'.length := m2.1.1
      refine ⟨ms', by omega, rs_ok_up m1 ⟨wq_up_at (by decide), wq_up_at (by decide)⟩ (fun c hc => funext fun j => wq_up_cell (by omega)), ?_, ?_, by omega, ?_⟩
      · rw [wq_up_at (by decide), hgm 0 65 (by unfold gmx; omega), hfr 0 65 (by omega)]
        exact l3
      · rw [wq_up_at (by decide), hgm 0 66 (by unfold gmx; omega), hfr 0 66 (by omega)]
        exact l4
      · have w := take_ext (b := br) (a := ms') (by omega) (fun s hs => by rw [m2.1.2 s (by omega), hpre s (by omega), ← st_take_get (show s < bm by omega) l5, l6])
        rw [d1] at w
        exact w
