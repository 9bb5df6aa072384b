/-! ===== 98: what a name means, level by level on both sides (wip/whole2/98.txt) ===== -/
theorem sc_ok_up {N : Nat} {off voff ph : Nat → Nat} {F F1 G G1 : wq_F} {ls ls1 cs cs1 : List (List Nat)} (h : sc_ok N off voff ph F ls G cs) (hF0 : F1 0 53 = F 0 53 ∧ F1 0 50 = F 0 50) (hFc : ∀ c, 29 ≤ c → c ≤ 32 → F1 c = F c) (hG0 : G1 59 8 = G 59 8 ∧ G1 59 3 = G 59 3) (hGc : ∀ c, 60 ≤ c → c ≤ 63 → G1 c = G c) (hls : ls.length ≤ ls1.length ∧ ∀ s, s < ls.length → ls1.getD s [] = ls.getD s []) (hcs : cs.length ≤ cs1.length ∧ ∀ s, s < cs.length → cs1.getD s [] = cs.getD s []) : sc_ok N off voff ph F1 ls1 G1 cs1 := by
  obtain ⟨s1, s2, s3, s4, s5, s6, s7, s8⟩ := h
  rw [← hF0.1, ← hF0.2, ← hG0.1, ← hG0.2] at s1
  refine ⟨s1, fun l hl => ?_, fun k hk => ?_, s4, fun i hi => ?_, s6, fun l j k hl h1 h2 h3 => ?_, fun l m h1 h2 => ?_⟩
  · rw [hGc 63 (by decide) (by decide), hFc 31 (by decide) (by decide), hFc 32 (by decide) (by decide), hGc 62 (by decide) (by decide)]
    exact s2 l hl
  · rw [hGc 61 (by decide) (by decide), hFc 29 (by decide) (by decide), hGc 60 (by decide) (by decide)]
    obtain ⟨a1, a2, a3, a4, a5⟩ := s3 k hk
    exact ⟨a1, a2, by omega, by omega, by rw [hls.2 _ a3, hcs.2 _ a4]; exact a5⟩
  · rw [hGc 61 (by decide) (by decide)]
    exact s5 i hi
  · rw [hFc 30 (by decide) (by decide)]
    exact s7 l j k hl h1 h2 h3
  · rw [hGc 62 (by decide) (by decide)]
    exact s8 l m h1 h2
theorem sc_vc_up {off : Nat → Nat} {G G1 : wq_F} {l nc : Nat} (h60 : G1 60 = G 60) (h61 : G1 61 = G 61) : sc_vc off G1 l nc = sc_vc off G l nc := by
  unfold sc_vc
  rw [h60, h61]
/-- where the meaning of a name comes from, at a level: the reference's pair, the class's pair -/
def lk_at (off voff ph : Nat → Nat) (F G : wq_F) (nc l v x s y : Nat) : Prop :=
  (v = 1 ∧ ∃ k0, voff l ≤ k0 ∧ k0 < voff (l + 1) ∧ x = F 30 k0 ∧ G 60 (ph k0) = nc ∧ s = G 61 (ph k0) ∧ s < 2147483648 ∧ sc_vc off G l nc = some (ph k0)) ∨
  (v = 0 ∧ 0 < l ∧ x < G 20 (G 62 l) ∧ G 66 (30 * G 62 l + x) = nc ∧ s = 4294967295 ∧ y = x ∧ sc_vc off G l nc = none)
/-- from this level on nothing of that name is known, nothing is captured -/
def nf_at (N : Nat) (off : Nat → Nat) (G : wq_F) (nc m : Nat) : Prop := ∀ j, m ≤ j → j < N → sc_vc off G j nc = none ∧ ∀ k, k < G 20 (G 62 j) → ¬ G 66 (30 * G 62 j + k) = nc
def rv_frF (F H : wq_F) : Prop := ∀ c i, c ≠ 15 → c ≠ 18 → c ≠ 19 → (c = 0 → i ≠ 61 ∧ i ≠ 62) → H c i = F c i
def rv_frG (G H : wq_F) : Prop := ∀ c i, c ≠ 20 → c ≠ 23 → c ≠ 66 → (c = 59 → i ≠ 10 ∧ i ≠ 11) → H c i = G c i
/-- the reference goes on behind a fault -/
theorem rv_fault {nn N p ls : Nat} : ∀ g m : Nat, ∀ (F : wq_F) (v x : Nat), N - m < g ∧ m ≤ N → F 0 53 + 1 = N → N ≤ 24 → 30 < nn → ¬ F 0 4 = 0 → (∀ j, j < N → F 32 j < 50 ∧ F 15 (F 32 j) ≤ 30) → ∃ H, dk_222_88 nn g F p ls x v m = some (0, H) ∧ H 0 4 = F 0 4 ∧ H 0 5 = F 0 5 ∧ rv_frF F H
  | 0, m, _, _, _, h, _, _, _, _, _ => absurd h.1 (Nat.not_lt_zero _)
  | g + 1, m, F, v, x, h1, h2, h3, hn, h4, h5 => by
    show ∃ H, dk_222_88b nn (dk_222_88 nn g) F p ls x v m = some (0, H) ∧ _
    unfold dk_222_88b
    by_cases q : m < N
    · rw [if_neg (fun z => absurd ((wd_slt (by omega) (by omega)).mp z) (by omega))]
      obtain ⟨f1, f2⟩ := h5 m q
      have hc := dkS_221 (nn := nn) (F := F) (v := v) (x := x) (p := p) (show m < 52 by omega) rfl (show F 32 m < 51 by omega) rfl f2 hn
      have next : ∀ (A : wq_F) (y : Nat), A 0 4 = F 0 4 → A 0 5 = F 0 5 → A 0 53 = F 0 53 → A 32 = F 32 → (∀ j, j < N → A 15 (F 32 j) ≤ 30) → rv_frF F A → ∃ H, (od_let ((m + 1) % 4294967296) fun y19 => dk_222_88 nn g A p ls y 0 y19) = some (0, H) ∧ H 0 4 = F 0 4 ∧ H 0 5 = F 0 5 ∧ rv_frF F H := fun A y a1 a2 a3 a4 a5 a6 => by
        rw [od_letS, Nat.mod_eq_of_lt (show m + 1 < 4294967296 by omega)]
        obtain ⟨H, d1, d2, d3, d4⟩ := rv_fault (nn := nn) (N := N) (p := p) (ls := ls) g (m + 1) A 0 y (by omega) (by rw [a3]; exact h2) h3 hn (by rw [a1]; exact h4) (fun j hj => by rw [a4]; exact ⟨(h5 j hj).1, a5 j hj⟩)
        refine ⟨H, d1, d2.trans a1, d3.trans a2, fun c i c1 c2 c3 c4 => ?_⟩
        rw [d4 c i c1 c2 c3 c4]
        exact a6 c i c1 c2 c3 c4
      by_cases z : ∃ j, j < F 15 (F 32 m) ∧ F 18 (30 * F 32 m + j) = v ∧ F 19 (30 * F 32 m + j) = x
      · have hmin : ∃ j, j < F 15 (F 32 m) ∧ F 18 (30 * F 32 m + j) = v ∧ F 19 (30 * F 32 m + j) = x ∧ ∀ i, i < j → ¬ (F 18 (30 * F 32 m + i) = v ∧ F 19 (30 * F 32 m + i) = x) := by
          obtain ⟨j, hj⟩ := z
          induction j using Nat.strongRecOn with
          | _ j ih =>
            by_cases y : ∃ i, i < j ∧ F 18 (30 * F 32 m + i) = v ∧ F 19 (30 * F 32 m + i) = x
            · obtain ⟨i, hi, hi2⟩ := y
              exact ih i hi ⟨by omega, hi2⟩
            · exact ⟨j, hj.1, hj.2.1, hj.2.2, fun i hi w => y ⟨i, hi, w⟩⟩
        obtain ⟨j, j1, j2, j3, j4⟩ := hmin
        rw [hc.1 j j1 j2 j3 j4, od_bS]
        exact next F j rfl rfl rfl rfl (fun j hj => (h5 j hj).2) (fun _ _ _ _ _ _ => rfl)
      · rw [hc.2 (fun j hj w => z ⟨j, hj, w⟩)]
        by_cases y : F 15 (F 32 m) = 30
        · have h209 : dk_209 F 3 p = some (0, F) := if_neg h4
          rw [if_pos y, h209, od_bS, od_bS]
          exact next F 0 rfl rfl rfl rfl (fun j hj => (h5 j hj).2) (fun _ _ _ _ _ _ => rfl)
        · rw [if_neg y, od_bS]
          refine next (cap_add F (F 32 m) (F 15 (F 32 m)) v x) (F 15 (F 32 m)) ?_ ?_ ?_ ?_ (fun j hj => ?_) (fun c i c1 c2 c3 _ => ?_)
          · unfold cap_add
            rw [wq_up_cell (by decide), wq_up_cell (by decide), wq_up_cell (by decide)]
          · unfold cap_add
            rw [wq_up_cell (by decide), wq_up_cell (by decide), wq_up_cell (by decide)]
          · unfold cap_add
            rw [wq_up_cell (by decide), wq_up_cell (by decide), wq_up_cell (by decide)]
          · funext i
            unfold cap_add
            rw [wq_up_cell (by decide), wq_up_cell (by decide), wq_up_cell (by decide)]
          · unfold cap_add
            by_cases w : F 32 j = F 32 m
            · rw [w, wq_up_same]
              omega
            · rw [wq_up_at w, wq_up_cell (by decide), wq_up_cell (by decide)]
              exact (h5 j hj).2
          · unfold cap_add
            rw [wq_up_cell c1, wq_up_cell c3, wq_up_cell c2]
    · rw [if_pos ((wd_slt (by omega) (by omega)).mpr (by omega))]
      by_cases y : ls = F 0 53
      · rw [if_pos y, od_upS, od_upS]
        exact ⟨_, rfl, by rw [wq_up_at (by decide), wq_up_at (by decide)], by rw [wq_up_at (by decide), wq_up_at (by decide)], fun c i _ _ _ c4 => by rw [wq_up_ne (fun z => (c4 z.1).2 z.2), wq_up_ne (fun z => (c4 z.1).1 z.2)]⟩
      · rw [if_neg y, od_upS, od_upS]
        exact ⟨_, rfl, by rw [wq_up_at (by decide), wq_up_at (by decide)], by rw [wq_up_at (by decide), wq_up_at (by decide)], fun c i _ _ _ c4 => by rw [wq_up_ne (fun z => (c4 z.1).2 z.2), wq_up_ne (fun z => (c4 z.1).1 z.2)]⟩
/-- one level more captures the name: all stays in order -/
theorem cp_add_ok {N : Nat} {off voff ph : Nat → Nat} {F G : wq_F} {ls cs : List (List Nat)} (hs : sc_ok N off voff ph F ls G cs) (hc : cp_ok N off voff ph F G cs) {m v x s y nc : Nat} (hm : m + 1 < N) (hlk : lk_at off voff ph F G nc m v x s y) (hx30 : v = 0 → x < 30) (hnf : ∀ k, k < G 20 (G 62 (m + 1)) → ¬ G 66 (30 * G 62 (m + 1) + k) = nc) (hn : G 20 (G 62 (m + 1)) < 30) (hcl : nc < cs.length) :
    cp_ok N off voff ph (cap_add F (G 62 (m + 1)) (G 20 (G 62 (m + 1))) v x) (cap_addX G (G 62 (m + 1)) (G 20 (G 62 (m + 1))) (if s = 4294967295 then ev_oXor y 4294967295 else s) nc) cs := by
  have hfd := hs.2.2.2.2.2.2.2
  have hne : ∀ j, j < N → j ≠ m + 1 → ¬ G 62 j = G 62 (m + 1) := fun j hj h => by
    by_cases z : j < m + 1
    · have := hfd j (m + 1) z hm
      omega
    · have := hfd (m + 1) j (by omega) hj
      omega
  generalize hf : G 62 (m + 1) = f at *
  generalize hk : G 20 f = n at *
  have X62 : cap_addX G f n (if s = 4294967295 then ev_oXor y 4294967295 else s) nc 62 = G 62 := by
    funext i
    unfold cap_addX
    rw [wq_up_cell (by decide), wq_up_cell (by decide), wq_up_cell (by decide)]
  have X20 : ∀ i, cap_addX G f n (if s = 4294967295 then ev_oXor y 4294967295 else s) nc 20 i = if i = f then n + 1 else G 20 i := fun i => by
    unfold cap_addX
    by_cases e : i = f
    · rw [if_pos e, e, wq_up_same]
    · rw [if_neg e, wq_up_at e, wq_up_cell (by decide), wq_up_cell (by decide)]
  have X66 : ∀ i, cap_addX G f n (if s = 4294967295 then ev_oXor y 4294967295 else s) nc 66 i = if i = 30 * f + n then nc else G 66 i := fun i => by
    unfold cap_addX
    rw [wq_up_cell (by decide)]
    by_cases e : i = 30 * f + n
    · rw [if_pos e, e, wq_up_same]
    · rw [if_neg e, wq_up_at e, wq_up_cell (by decide)]
  have X23 : ∀ i, cap_addX G f n (if s = 4294967295 then ev_oXor y 4294967295 else s) nc 23 i = if i = 30 * f + n then (if s = 4294967295 then ev_oXor y 4294967295 else s) else G 23 i := fun i => by
    unfold cap_addX
    rw [wq_up_cell (by decide), wq_up_cell (by decide)]
    by_cases e : i = 30 * f + n
    · rw [if_pos e, e, wq_up_same]
    · rw [if_neg e, wq_up_at e]
  have X60 : cap_addX G f n (if s = 4294967295 then ev_oXor y 4294967295 else s) nc 60 = G 60 := by
    funext i
    unfold cap_addX
    rw [wq_up_cell (by decide), wq_up_cell (by decide), wq_up_cell (by decide)]
  have X61 : cap_addX G f n (if s = 4294967295 then ev_oXor y 4294967295 else s) nc 61 = G 61 := by
    funext i
    unfold cap_addX
    rw [wq_up_cell (by decide), wq_up_cell (by decide), wq_up_cell (by decide)]
  have F15 : ∀ i, cap_add F f n v x 15 i = if i = f then n + 1 else F 15 i := fun i => by
    unfold cap_add
    by_cases e : i = f
    · rw [if_pos e, e, wq_up_same]
    · rw [if_neg e, wq_up_at e, wq_up_cell (by decide), wq_up_cell (by decide)]
  have F18 : ∀ i, cap_add F f n v x 18 i = if i = 30 * f + n then v else F 18 i := fun i => by
    unfold cap_add
    rw [wq_up_cell (by decide), wq_up_cell (by decide)]
    by_cases e : i = 30 * f + n
    · rw [if_pos e, e, wq_up_same]
    · rw [if_neg e, wq_up_at e]
  have F19 : ∀ i, cap_add F f n v x 19 i = if i = 30 * f + n then x else F 19 i := fun i => by
    unfold cap_add
    rw [wq_up_cell (by decide)]
    by_cases e : i = 30 * f + n
    · rw [if_pos e, e, wq_up_same]
    · rw [if_neg e, wq_up_at e, wq_up_cell (by decide)]
  have F30 : cap_add F f n v x 30 = F 30 := by
    funext i
    unfold cap_add
    rw [wq_up_cell (by decide), wq_up_cell (by decide), wq_up_cell (by decide)]
  generalize cap_addX G f n (if s = 4294967295 then ev_oXor y 4294967295 else s) nc = G1 at *
  generalize cap_add F f n v x = F1 at *
  have vc : ∀ l b, sc_vc off G1 l b = sc_vc off G l b := fun l b => sc_vc_up X60 X61
  refine ⟨?_, fun l hl => ?_⟩
  · rw [X62]
    have h0 := hne 0 (by omega) (by omega)
    rw [F15, X20, if_neg h0, if_neg h0]
    exact hc.1
  · obtain ⟨c1, c2, c3, c4⟩ := hc.2 l hl
    unfold cp_at
    rw [X62]
    by_cases e : l = m
    · subst e
      rw [hf] at c1 c2 c3 c4 ⊢
      rw [hk] at c1 c2 c3 c4
      rw [F15, X20, if_pos rfl, if_pos rfl]
      refine ⟨rfl, by omega, fun j k hj hk2 => ?_, fun k hk2 => ?_⟩
      · rw [X66, X66]
        by_cases z : k = n
        · rw [if_neg (by omega), if_pos (by omega)]
          exact hnf j (by omega)
        · rw [if_neg (by omega), if_neg (by omega)]
          exact c3 j k hj (by omega)
      · rw [X66, F18, F19, X23, F30, X61]
        have hlf : ¬ G 62 l = f := hne l (by omega) (by omega)
        by_cases z : k = n
        · rw [if_pos (by omega), if_pos (by omega), if_pos (by omega), if_pos (by omega)]
          refine ⟨hcl, fun i hi => ?_, fun hi => ?_⟩
          · rw [vc] at hi
            rcases hlk with ⟨v1, k0, a1, a2, a3, a4, a5, a6, a7⟩ | ⟨_, _, _, _, _, _, a7⟩
            · rw [a7] at hi
              cases hi
              exact ⟨k0, a1, a2, rfl, v1, a3, by rw [if_neg (by omega)]; exact a5⟩
            · rw [a7] at hi
              cases hi
          · rw [vc] at hi
            rcases hlk with ⟨_, k0, a1, a2, a3, a4, a5, a6, a7⟩ | ⟨a0, a1, a2, a3, a4, a5, a7⟩
            · rw [a7] at hi
              cases hi
            · rw [X20, X66, if_neg hlf, if_neg (by omega), if_pos a4, a5, wd_xor1 x (hx30 a0)]
              exact ⟨a1, a0, a2, a3, rfl⟩
        · rw [if_neg (by omega), if_neg (by omega), if_neg (by omega), if_neg (by omega), vc]
          obtain ⟨d1, d2, d3⟩ := c4 k (by omega)
          refine ⟨d1, d2, fun hi => ?_⟩
          obtain ⟨b1, b2, b3, b4, b5⟩ := d3 hi
          have hcl30 := (cp_len hc (show l < N by omega)).2
          rw [X20, X66, if_neg hlf, if_neg (by omega)]
          exact ⟨b1, b2, b3, b4, b5⟩
    · have hlf : ¬ G 62 (l + 1) = f := hne (l + 1) hl (by omega)
      rw [F15, X20, if_neg hlf, if_neg hlf]
      have hnk : ∀ k, k < G 20 (G 62 (l + 1)) → ¬ 30 * G 62 (l + 1) + k = 30 * f + n := fun k hk2 => by omega
      refine ⟨c1, c2, fun j k hj hk2 => ?_, fun k hk2 => ?_⟩
      · rw [X66, X66, if_neg (hnk j (by omega)), if_neg (hnk k hk2)]
        exact c3 j k hj hk2
      · rw [X66, F18, F19, X23, F30, X61, if_neg (hnk k hk2), if_neg (hnk k hk2), if_neg (hnk k hk2), if_neg (hnk k hk2), vc]
        obtain ⟨d1, d2, d3⟩ := c4 k hk2
        refine ⟨d1, d2, fun hi => ?_⟩
        obtain ⟨b1, b2, b3, b4, b5⟩ := d3 hi
        rw [X20, X66]
        by_cases w : G 62 l = f
        · rw [w] at b3 b4 ⊢
          rw [hk] at b3
          rw [if_pos rfl, if_neg (by omega)]
          exact ⟨b1, b2, by omega, b4, b5⟩
        · have hcl30 := (cp_len hc (show l < N by omega)).2
          rw [if_neg w, if_neg (by omega)]
          exact ⟨b1, b2, b3, b4, b5⟩
