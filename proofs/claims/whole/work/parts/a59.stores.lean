/-! ===== a59: the places of an assignment, the stores (wip/whole2/lawa59.py) ===== -/
/-- how many of the places are in tables -/
def nx : List (Nat × Nat × Nat) → Nat
  | [] => 0
  | p :: PA => (if p.1 = 3 then 1 else 0) + nx PA
theorem nx_le : ∀ {PA : List (Nat × Nat × Nat)}, nx PA ≤ PA.length
  | [] => Nat.le_refl _
  | p :: PA => by
    have h := nx_le (PA := PA)
    show (if p.1 = 3 then 1 else 0) + nx PA ≤ PA.length + 1
    by_cases q : p.1 = 3
    · rw [if_pos q]; omega
    · rw [if_neg q]; omega
/-- the places of both sides, the latest first -/
def plr (b15 : Nat) (c : List Nat) (ls cs : List (List Nat)) : List (Nat × Nat × Nat) → List (Nat × Nat × Nat) → Prop
  | [], [] => True
  | p :: PA, q :: QA => ((p.1 = 0 ∧ q.1 = 5 ∧ cx_at c q.2.1 p.2.1) ∨ (p.1 = 1 ∧ q.1 = 7 ∧ p.2.1 = q.2.1 ∧ p.2.1 < b15) ∨ (p.1 = 2 ∧ q.1 = 9 ∧ p.2.1 < ls.length ∧ q.2.1 < cs.length ∧ ls.getD p.2.1 [] = cs.getD q.2.1 []) ∨ (p.1 = 3 ∧ q.1 = 11 ∧ q.2.1 = hg c + 2 * nx PA ∧ p.2.2 = q.2.2)) ∧ plr b15 c ls cs PA QA
  | _, _ => False
theorem plr_len {b15 : Nat} {c : List Nat} {ls cs : List (List Nat)} : ∀ {PA QA : List (Nat × Nat × Nat)}, plr b15 c ls cs PA QA → PA.length = QA.length
  | [], [], _ => rfl
  | [], _ :: _, h => h.elim
  | _ :: _, [], h => h.elim
  | p :: PA, q :: QA, h => by
    have z := plr_len h.2
    show PA.length + 1 = QA.length + 1
    omega
theorem plr_up {b15 b15' : Nat} {c : List Nat} {ls cs ls' cs' : List (List Nat)} (hb : b15 ≤ b15') (hl : st_pre ls ls') (hc : st_pre cs cs') : ∀ {PA QA : List (Nat × Nat × Nat)}, plr b15 c ls cs PA QA → plr b15' c ls' cs' PA QA
  | [], [], _ => trivial
  | [], _ :: _, h => h.elim
  | _ :: _, [], h => h.elim
  | p :: PA, q :: QA, h => by
    refine ⟨?_, plr_up hb hl hc h.2⟩
    rcases h.1 with z | ⟨z1, z2, z3, z4⟩ | ⟨z1, z2, z3, z4, z5⟩ | z
    · exact Or.inl z
    · exact Or.inr (Or.inl ⟨z1, z2, z3, Nat.lt_of_lt_of_le z4 hb⟩)
    · exact Or.inr (Or.inr (Or.inl ⟨z1, z2, Nat.lt_of_lt_of_le z3 hl.1, Nat.lt_of_lt_of_le z4 hc.1, by rw [hl.2 _ z3, hc.2 _ z4]; exact z5⟩))
    · exact Or.inr (Or.inr (Or.inr z))
/-- the reference counts the places in tables -/
theorem as_cnt {nn g : Nat} {F : wq_F} {P : List (Nat × Nat × Nat)} : ∀ (PA : List (Nat × Nat × Nat)), ry_pl F (PA ++ P) → P.length + PA.length ≤ F 0 60 → F 0 60 < 600 → (∀ p ∈ PA, p.1 < 10) → dk_257_35 nn (g + PA.length) F P.length 0 P.length = dk_257_35 nn g F P.length (2 * nx PA) (P.length + PA.length)
  | [], _, _, _, _ => rfl
  | p :: PA, h, h1, h2, h3 => by
    have hl : (p :: PA).length = PA.length + 1 := rfl
    have h35 : F 35 (PA ++ P).length = p.1 := h.1.1
    rw [List.length_append, Nat.add_comm] at h35
    have ih := as_cnt (nn := nn) (g := g + 1) PA h.2 (by omega) h2 (fun q hq => h3 q (List.mem_cons_of_mem _ hq))
    have nl := nx_le (PA := PA)
    rw [show g + 1 + PA.length = g + (p :: PA).length by omega] at ih
    rw [ih]
    show dk_257_35b nn (dk_257_35 nn g) F P.length (2 * nx PA) (P.length + PA.length) = _
    unfold dk_257_35b
    rw [if_pos ((wd_slt (by omega) (by omega)).mpr (by omega)), od_g1 (by omega), h35]
    by_cases q : p.1 = 3
    · rw [if_pos q, od_letS, Nat.mod_eq_of_lt (show P.length + PA.length + 1 < 4294967296 by omega), Nat.mod_eq_of_lt (show 2 * nx PA + 2 < 4294967296 by omega)]
      show _ = dk_257_35 nn g F P.length (2 * ((if p.1 = 3 then 1 else 0) + nx PA)) (P.length + (PA.length + 1))
      rw [if_pos q, show 2 * (1 + nx PA) = 2 * nx PA + 2 by omega, Nat.add_assoc]
    · rw [if_neg q, od_letS, Nat.mod_eq_of_lt (show P.length + PA.length + 1 < 4294967296 by omega)]
      show _ = dk_257_35 nn g F P.length (2 * ((if p.1 = 3 then 1 else 0) + nx PA)) (P.length + (PA.length + 1))
      rw [if_neg q, Nat.zero_add, Nat.add_assoc]
section
variable {nn : Nat} {T : Nat → Nat} {n M O : Nat} {G0 : wq_F} {c0 : List (List Nat)} {i t w s nw ns np N : Nat} {off voff ph : Nat → Nat} {cx : Nat → List Nat} {c cb : List Nat} {W : List (Nat × Nat × Nat × Nat)} {L : List (Nat × Nat)} {P Q : List (Nat × Nat × Nat)} {ls cs : List (List Nat)} {F G : wq_F}

variable {b15 M0 : Nat} {R : dk_Rt}
/-- the last steps: the mark dropped, the stack cut -/
theorem as_last {PX QX : List (Nat × Nat × Nat)} {g g' : Nat} (hPX : ∃ PB, PX = PB ++ P) (hQX : ∃ QB, QX = QB ++ Q) (hr : ry T n M i ls t w nw np W L PX F) (hc : cy T n G0 c0 O i cs s ns np N QX G) (hb : bz N off voff ph cx (List.replicate (2 * M0) 0 ++ 1 :: c) np F ls G cs) (hnp : np ≤ 50) (hw : w < 13980) (hs : s < 9980) (hh : hg c < 100000) (hM0 : M0 ≤ 100) (hP : P.length < 600) (hQ : Q.length ≤ 440) :
    ∃ H, dk_257_80 nn (g' + 1) F P.length 0 ((P.length + 4294967295) % 4294967296) = some (1, H) ∧ rm_fr F H ∧ wok (dk_141_155 R nn (g + 1) G (hg c) (3 * Q.length) ((3 * Q.length + 4294967293) % 4294967296)) (fun _ K => ∃ w' s', eg T n M G0 c0 O N off voff ph cx cb F G i ls cs w s nw ns np (List.replicate (2 * M0) 0 ++ 1 :: c) t W L P Q H K i ls cs w' s' nw ns np c ∧ w ≤ w' ∧ w' ≤ w + 1 ∧ s ≤ s' ∧ s' ≤ s + 1) := by
  have hhy : hg (List.replicate (2 * M0) 0 ++ 1 :: c) = 2 * M0 + hg c := by rw [hg_app, hg_rep, hg_1]
  have hq62 := hb.2.2.2.2.2.1
  have r1 : ry T n M i ls t w nw np W L P (wq_up F 0 60 P.length) := by
    obtain ⟨PB, e⟩ := hPX
    rw [e] at hr
    exact ry_pc hr
  have c1 : cy T n G0 c0 O i cs s ns np N Q (wq_up G 56 11 (3 * Q.length)) := by
    obtain ⟨QB, e⟩ := hQX
    rw [e] at hc
    exact cy_pc hc
  have b1 : bz N off voff ph cx (List.replicate (2 * M0) 0 ++ 1 :: c) np (wq_up F 0 60 P.length) ls (wq_up G 56 11 (3 * Q.length)) cs := bz_gu (bz_fu hb (by omega)) (by omega)
  have E0 : eg T n M G0 c0 O N off voff ph cx cb F G i ls cs w s nw ns np (List.replicate (2 * M0) 0 ++ 1 :: c) t W L P Q (wq_up F 0 60 P.length) (wq_up G 56 11 (3 * Q.length)) i ls cs w s nw ns np (List.replicate (2 * M0) 0 ++ 1 :: c) := eg_n r1 c1 b1 (fun d j q => wq_up_cell (by omega)) (fun d j q => wq_up_cell (by omega)) (st_pre_refl _) (Nat.le_refl _) hnp
  have w1 : wq_up F 0 60 P.length 0 41 = w := r1.2.1.2.1
  have ff1 : rm_fr F (wq_up F 0 60 P.length) := rm_fr_up (rm_fr_refl _) (by decide) (by decide)
  have e80 : dk_257_80 nn (g' + 1) F P.length 0 ((P.length + 4294967295) % 4294967296) = some (1, pm_em (wq_up F 0 60 P.length) 47 0 0 0) := by
    show dk_257_80b nn (dk_257_80 nn g') F P.length 0 ((P.length + 4294967295) % 4294967296) = _
    unfold dk_257_80b
    have hlt : ev_s ((P.length + 4294967295) % 4294967296) < ev_s P.length := by
      by_cases z : P.length = 0
      · rw [z]
        decide
      · exact (wd_slt (by omega) (by omega)).mpr (by omega)
    rw [if_pos hlt, od_upS, dkS_30 (by omega), od_bS]
  refine ⟨_, e80, rm_fr_em ff1, ?_⟩
  show wok (dk_141_155b R nn (dk_141_155 R nn g) G (hg c) (3 * Q.length) ((3 * Q.length + 4294967293) % 4294967296)) _
  unfold dk_141_155b
  have hlt : ev_s ((3 * Q.length + 4294967293) % 4294967296) < ev_s (3 * Q.length) := by
    by_cases z : Q.length = 0
    · rw [z]
      decide
    · rw [show 3 * Q.length + 4294967293 = (3 * Q.length - 3) + 4294967296 by omega, Nat.add_mod_right, Nat.mod_eq_of_lt (show 3 * Q.length - 3 < 4294967296 by omega)]
      exact (wd_slt (by omega) (by omega)).mpr (by omega)
  refine wok_t hlt (wok_u ?_)
  generalize wq_up F 0 60 P.length = F1 at *
  generalize wq_up G 56 11 (3 * Q.length) = G1 at *
  obtain ⟨l1, l2, _, _⟩ := cy_lv c1 b1
  have k64 : G1 64 (N - 1) = 2 * M0 + hg c := (bz_hc b1).trans hhy
  unfold dk_132
  rw [dkS_84 l1 l2, od_bS]
  dsimp only
  by_cases q : M0 = 0
  · subst q
    rw [if_pos (by omega), od_bS]
    refine wok_r ?_
    have e5 := e_drop (cb := cb) (a := 0) (b := 0) (l := 0) r1 c1 b1 rfl hnp
    exact ⟨w + 1, s, eg_t E0 e5 hq62, by omega, by omega, by omega, by omega⟩
  · rw [if_neg (by omega)]
    refine wok_b (A := fun _ K => eg T n M G0 c0 O N off voff ph cx cb F1 G1 i ls cs w s nw ns np (List.replicate (2 * M0) 0 ++ 1 :: c) t W L P Q (pm_em F1 47 0 0 0) K i ls cs (w + 1) (s + 1) nw ns np c) (wok_b (e_113 (cb := cb) (o := 47) (a := 0) (b := 0) (l := 0) (d := c) r1 c1 b1 hnp (by omega) rfl (fun k _ _ z => cx_at_dn (a := List.replicate (2 * M0) 0 ++ [1]) (fun e he => (List.mem_append.mp he).elim (fun z => by rw [rep_lt z]; decide) (fun z => by rw [List.mem_singleton.mp z]; decide)) (by rw [List.append_assoc]; exact z)) (bz_cd (a := List.replicate (2 * M0) 0 ++ [1]) b1 (by rw [List.append_assoc]; rfl)) (fun H J nm h1 h2 _ => Or.inr ⟨19, h1.1, h2.1, List.replicate (2 * M0) 0, c, rfl, fun e he => rep_lt he, h2.2.1, rfl⟩)) fun r K h => wok_r h.1) fun r K h => wok_r ?_
    exact ⟨w + 1, s + 1, eg_t E0 h hq62, by omega, by omega, by omega, by omega⟩
/-- all values are stored -/
theorem as_stores (hnp : np ≤ 50) (hh : hg c < 100000) (hM0 : M0 ≤ 100) : ∀ (PA QA PX QX : List (Nat × Nat × Nat)) (g g' w s : Nat) (F G : wq_F), PA.length < g → PA.length < g' → (∃ PB, PX = PB ++ (PA ++ P)) → (∃ QB, QX = QB ++ (QA ++ Q)) → ry T n M i ls t w nw np W L PX F → cy T n G0 c0 O i cs s ns np N QX G → bz N off voff ph cx (List.replicate PA.length 0 ++ (List.replicate (2 * M0) 0 ++ 1 :: c)) np F ls G cs → plr b15 (1 :: c) ls cs PA QA → b15 ≤ F 15 (G 62 (N - 1)) → nx PA ≤ M0 → w + PA.length < 13980 → s + PA.length < 9980 → P.length + PA.length < 600 → Q.length + QA.length ≤ 440 →
    ∃ H, dk_257_80 nn g' F P.length (2 * nx PA) ((P.length + PA.length + 4294967295) % 4294967296) = some (1, H) ∧ rm_fr F H ∧ wok (dk_141_155 R nn g G (hg c) (3 * Q.length) ((3 * (Q.length + QA.length) + 4294967293) % 4294967296)) (fun _ K => ∃ w' s', eg T n M G0 c0 O N off voff ph cx cb F G i ls cs w s nw ns np (List.replicate PA.length 0 ++ (List.replicate (2 * M0) 0 ++ 1 :: c)) t W L P Q H K i ls cs w' s' nw ns np c ∧ w ≤ w' ∧ w' ≤ w + PA.length + 1 ∧ s ≤ s' ∧ s' ≤ s + PA.length + 1)
  | [], [], PX, QX, g, g', w, s, F, G, hg1, hg2, hPX, hQX, hr, hc, hb, _, _, _, hw, hs, hP, hQ => by
    obtain ⟨g, rfl⟩ : ∃ a, g = a + 1 := ⟨g - 1, by omega⟩
    obtain ⟨g', rfl⟩ : ∃ a, g' = a + 1 := ⟨g' - 1, by omega⟩
    exact as_last (M0 := M0) (R := R) (cb := cb) hPX hQX hr hc hb hnp hw hs hh hM0 hP hQ
  | [], _ :: _, _, _, _, _, _, _, _, _, _, _, _, _, _, _, _, h, _, _, _, _, _, _ => h.elim
  | _ :: _, [], _, _, _, _, _, _, _, _, _, _, _, _, _, _, _, h, _, _, _, _, _, _ => h.elim
  | p :: PA, q :: QA, PX, QX, g, g', w, s, F, G, hg1, hg2, hPX, hQX, hr, hc, hb, hp, h15, hnx, hw, hs, hP, hQ => by
    have hl1 : (p :: PA).length = PA.length + 1 := rfl
    have hl2 : (q :: QA).length = QA.length + 1 := rfl
    obtain ⟨g, rfl⟩ : ∃ a, g = a + 1 := ⟨g - 1, by omega⟩
    obtain ⟨g', rfl⟩ : ∃ a, g' = a + 1 := ⟨g' - 1, by omega⟩
    have hN := hb.1.1
    have hq62 := hb.2.2.2.2.2.1
    have nl := nx_le (PA := PA)
    have hrp : ry_pl F (p :: (PA ++ P)) := by
      obtain ⟨PB, e⟩ := hPX
      have z := hr.2.2.2.2.2
      rw [e] at z
      exact ry_pl_drop (A := PB) z
    have hcp : cy_pl G (q :: (QA ++ Q)) := by
      obtain ⟨QB, e⟩ := hQX
      have z := hc.2.2.1.2
      rw [e] at z
      exact cy_pl_drop (A := QB) z
    obtain ⟨⟨p1, p2, p3⟩, _⟩ := hrp
    obtain ⟨⟨q1, q2, q3⟩, _⟩ := hcp
    rw [List.length_append, Nat.add_comm] at p1 p2 p3
    rw [List.length_append, show QA.length + Q.length = Q.length + QA.length from Nat.add_comm _ _] at q1 q2 q3
    have hPX' : ∃ PB, PX = PB ++ (PA ++ P) := by
      obtain ⟨PB, e⟩ := hPX
      exact ⟨PB ++ [p], by rw [e, List.append_assoc]; rfl⟩
    have hQX' : ∃ QB, QX = QB ++ (QA ++ Q) := by
      obtain ⟨QB, e⟩ := hQX
      exact ⟨QB ++ [q], by rw [e, List.append_assoc]; rfl⟩
    have hw1 : F 0 41 = w := hr.2.1.2.1
    have hX : hg (List.replicate PA.length 0 ++ (List.replicate (2 * M0) 0 ++ 1 :: c)) = PA.length + (2 * M0 + hg c) := by rw [hg_app, hg_rep, hg_app, hg_rep, hg_1]
    have hX0 : hg (List.replicate (PA.length + 1) 0 ++ (List.replicate (2 * M0) 0 ++ 1 :: c)) = PA.length + 1 + (2 * M0 + hg c) := by rw [hg_app, hg_rep, hg_app, hg_rep, hg_1]
    have hb' : bz N off voff ph cx (0 :: (List.replicate PA.length 0 ++ (List.replicate (2 * M0) 0 ++ 1 :: c))) np F ls G cs := hb
    have e80 : dk_257_80 nn (g' + 1) F P.length (2 * nx (p :: PA)) ((P.length + (p :: PA).length + 4294967295) % 4294967296) = if p.1 = 3 then (dk_30 F 13 (2 * nx PA) 0 p.2.2).bind fun y24 => dk_257_80 nn g' y24.2 P.length (2 * nx PA) ((P.length + PA.length + 4294967295) % 4294967296) else (dk_30 F ((9 + p.1) % 4294967296) p.2.1 0 0).bind fun y13 => dk_257_80 nn g' y13.2 P.length (2 * nx PA) ((P.length + PA.length + 4294967295) % 4294967296) := by
      show dk_257_80b nn (dk_257_80 nn g') F P.length (2 * ((if p.1 = 3 then 1 else 0) + nx PA)) ((P.length + (PA.length + 1) + 4294967295) % 4294967296) = _
      unfold dk_257_80b
      rw [show (P.length + (PA.length + 1) + 4294967295) % 4294967296 = P.length + PA.length by omega, if_neg (fun z => by have := (wd_slt (by omega) (by omega)).mp z; omega), od_g1 (by omega), p1]
      by_cases z : p.1 = 3
      · rw [if_pos z, if_pos z, if_pos z, show (2 * (1 + nx PA) + (4294967296 - 2)) % 4294967296 = 2 * nx PA by omega, od_letS, od_g1 (by omega), p3]
        rfl
      · rw [if_neg z, if_neg z, if_neg z, od_g1 (by omega), od_g1 (by omega), p2, Nat.zero_add]
        rfl
    rw [e80]
    have e155 : dk_141_155 R nn (g + 1) G (hg c) (3 * Q.length) ((3 * (Q.length + (q :: QA).length) + 4294967293) % 4294967296) = (dk_143 G q.1 q.2.1 q.2.2).bind fun y12 => dk_141_155 R nn g y12.2 (hg c) (3 * Q.length) ((3 * (Q.length + QA.length) + 4294967293) % 4294967296) := by
      show dk_141_155b R nn (dk_141_155 R nn g) G (hg c) (3 * Q.length) ((3 * (Q.length + (QA.length + 1)) + 4294967293) % 4294967296) = _
      unfold dk_141_155b
      rw [show (3 * (Q.length + (QA.length + 1)) + 4294967293) % 4294967296 = 3 * (Q.length + QA.length) by omega, if_neg (fun z => by have := (wd_slt (by omega) (by omega)).mp z; omega), Nat.mod_eq_of_lt (show 3 * (Q.length + QA.length) + 1 < 4294967296 by omega), Nat.mod_eq_of_lt (show 3 * (Q.length + QA.length) + 2 < 4294967296 by omega), od_g1 (by omega), od_g1 (by omega), od_g1 (by omega), q1, q2, q3]
      rfl
    rw [e155]
    -- the next places
    have step : ∀ (F1 : wq_F) (hF1 : ry T n M i ls t (w + 1) nw np W L PX F1), rm_fr F F1 → (∀ d j, d = 15 → F1 d j = F d j) → (A1 : wok (dk_143 G q.1 q.2.1 q.2.2) (fun _ K => eg T n M G0 c0 O N off voff ph cx cb F G i ls cs w s nw ns np (List.replicate (p :: PA).length 0 ++ (List.replicate (2 * M0) 0 ++ 1 :: c)) t W L PX QX F1 K i ls cs (w + 1) (s + 1) nw ns np (List.replicate PA.length 0 ++ (List.replicate (2 * M0) 0 ++ 1 :: c)))) → nx PA ≤ M0 → ∃ H, dk_257_80 nn g' F1 P.length (2 * nx PA) ((P.length + PA.length + 4294967295) % 4294967296) = some (1, H) ∧ rm_fr F H ∧ wok ((dk_143 G q.1 q.2.1 q.2.2).bind fun y12 => dk_141_155 R nn g y12.2 (hg c) (3 * Q.length) ((3 * (Q.length + QA.length) + 4294967293) % 4294967296)) (fun _ K => ∃ w' s', eg T n M G0 c0 O N off voff ph cx cb F G i ls cs w s nw ns np (List.replicate (p :: PA).length 0 ++ (List.replicate (2 * M0) 0 ++ 1 :: c)) t W L P Q H K i ls cs w' s' nw ns np c ∧ w ≤ w' ∧ w' ≤ w + (p :: PA).length + 1 ∧ s ≤ s' ∧ s' ≤ s + (p :: PA).length + 1) := fun F1 hF1 ff x15 A1 hx => by
      obtain ⟨r, K, eK, E1⟩ := A1
      have k62 : K 62 (N - 1) = G 62 (N - 1) := (E1.2.2.2.2.1.2.2.1 (N - 1) (by omega)).1
      obtain ⟨H, a1, a2, a3⟩ := as_stores hnp hh hM0 PA QA PX QX g g' (w + 1) (s + 1) F1 K (by omega) (by omega) hPX' hQX' E1.1 E1.2.1 E1.2.2.1 hp.2 (by rw [k62, x15 15 _ rfl]; exact h15) hx (by omega) (by omega) (by omega) (by omega)
      refine ⟨H, a1, rm_fr_trans ff a2, ?_⟩
      rw [eK, od_bS]
      refine wok_m a3 fun r K h => ?_
      obtain ⟨w', s', E2, y1, y2, y3, y4⟩ := h
      exact ⟨w', s', eg_t E1 E2 hq62, by omega, by omega, by omega, by omega⟩
    have hx1 : p.1 = 3 → nx PA + 1 ≤ M0 := fun z => by
      have y : (if p.1 = 3 then 1 else 0) + nx PA ≤ M0 := hnx
      rw [if_pos z] at y
      omega
    have hx2 : nx PA ≤ M0 := by
      have y : (if p.1 = 3 then 1 else 0) + nx PA ≤ M0 := hnx
      omega
    have name : ∀ y x, y < 3 → p.1 = y → q.1 = x → x < 10 → (∀ (H J : wq_F) (nm : Nat → Nat → Prop), H 20 w = 9 + y → H 21 w = p.2.1 → J 12 s = x + 1 → J 13 s = q.2.1 → F 15 (G 62 (N - 1)) ≤ H 15 (G 62 (N - 1)) → nmr ls cs nm → ∃ k, cs1 H J nm k (G 62 (N - 1)) w s (0 :: (List.replicate PA.length 0 ++ (List.replicate (2 * M0) 0 ++ 1 :: c))) [(G 62 (N - 1), w + 1, s + 1, List.replicate PA.length 0 ++ (List.replicate (2 * M0) 0 ++ 1 :: c))]) → ∃ H, (if p.1 = 3 then (dk_30 F 13 (2 * nx PA) 0 p.2.2).bind fun y24 => dk_257_80 nn g' y24.2 P.length (2 * nx PA) ((P.length + PA.length + 4294967295) % 4294967296) else (dk_30 F ((9 + p.1) % 4294967296) p.2.1 0 0).bind fun y13 => dk_257_80 nn g' y13.2 P.length (2 * nx PA) ((P.length + PA.length + 4294967295) % 4294967296)) = some (1, H) ∧ rm_fr F H ∧ wok ((dk_143 G q.1 q.2.1 q.2.2).bind fun y12 => dk_141_155 R nn g y12.2 (hg c) (3 * Q.length) ((3 * (Q.length + QA.length) + 4294967293) % 4294967296)) (fun _ K => ∃ w' s', eg T n M G0 c0 O N off voff ph cx cb F G i ls cs w s nw ns np (List.replicate (p :: PA).length 0 ++ (List.replicate (2 * M0) 0 ++ 1 :: c)) t W L P Q H K i ls cs w' s' nw ns np c ∧ w ≤ w' ∧ w' ≤ w + (p :: PA).length + 1 ∧ s ≤ s' ∧ s' ≤ s + (p :: PA).length + 1) := fun y x hy e1 e2 hx hf => by
      rw [if_neg (by omega), e1, Nat.mod_eq_of_lt (show 9 + y < 4294967296 by omega), dkS_30 (by omega), od_bS]
      dsimp only
      refine step (pm_em F (9 + y) p.2.1 0 0) (ry_em hr) (rm_fr_em (rm_fr_refl _)) (fun d j z => pm_em_ne (by omega) (by omega)) ?_ hx2
      unfold dk_143
      rw [e2, if_neg (by omega), Nat.mod_eq_of_lt (show x + 1 < 4294967296 by omega)]
      refine wok_b (e_112f (cb := cb) (o := 9 + y) (a := p.2.1) (b := 0) (l := 0) (d := List.replicate PA.length 0 ++ (List.replicate (2 * M0) 0 ++ 1 :: c)) hr hc hb' hnp (by omega) (by rw [hg_0, hX]; omega) (fun k _ _ z => cx_at_dn (a := [0]) (fun e he => by rw [List.mem_singleton.mp he]; decide) z) (bz_cd (a := [0]) hb' rfl) (fun H J nm h1 h2 h3 hnm => Or.inl (hf H J nm h1.1 h1.2.1 h2.1 h2.2.1 h3 hnm))) fun r K h => wok_r h.1
    rcases hp.1 with ⟨z1, z2, z3⟩ | ⟨z1, z2, z3, z4⟩ | ⟨z1, z2, z3, z4, z5⟩ | ⟨z1, z2, z3, z4⟩
    · exact name 0 5 (by decide) z1 z2 (by decide) (fun H J nm a1 a2 a3 a4 a5 hnm => ⟨8, a1, a3, List.replicate PA.length 0 ++ (List.replicate (2 * M0) 0 ++ 1 :: c), rfl, by rw [a4, a2]; exact cx_at_up (cx_at_up z3 _) _, rfl⟩)
    · exact name 1 7 (by decide) z1 z2 (by decide) (fun H J nm a1 a2 a3 a4 a5 hnm => ⟨9, a1, a3, by rw [a4, a2]; exact z3, by rw [a2]; omega, List.replicate PA.length 0 ++ (List.replicate (2 * M0) 0 ++ 1 :: c), rfl, rfl⟩)
    · exact name 2 9 (by decide) z1 z2 (by decide) (fun H J nm a1 a2 a3 a4 a5 hnm => ⟨10, a1, a3, by rw [a4, a2]; exact hnm _ _ z3 z4 z5, List.replicate PA.length 0 ++ (List.replicate (2 * M0) 0 ++ 1 :: c), rfl, rfl⟩)
    · have hx3 := hx1 z1
      rw [if_pos z1, dkS_30 (by omega), od_bS]
      dsimp only
      refine step (pm_em F 13 (2 * nx PA) 0 p.2.2) (ry_em hr) (rm_fr_em (rm_fr_refl _)) (fun d j z => pm_em_ne (by omega) (by omega)) ?_ hx2
      unfold dk_143
      rw [z2, if_pos rfl]
      refine wok_b (e_112 (cb := cb) (o := 13) (a := 2 * nx PA) (b := 0) (l := p.2.2) (d := List.replicate PA.length 0 ++ (List.replicate (2 * M0) 0 ++ 1 :: c)) hr hc hb' hnp (by omega) (by rw [hg_0, hX]; omega) (fun k _ _ z => cx_at_dn (a := [0]) (fun e he => by rw [List.mem_singleton.mp he]; decide) z) (bz_cd (a := [0]) hb' rfl) (fun H J nm h1 h2 _ => Or.inl ⟨12, h1.1, h2.1, by rw [h1.2.2.2, h2.2.2.2]; exact z4, List.replicate PA.length 0 ++ List.replicate (2 * M0) 0, c, by rw [List.append_assoc], fun e he => (List.mem_append.mp he).elim rep_lt rep_lt, by rw [h1.2.1, List.length_append, List.length_replicate, List.length_replicate]; omega, by rw [h2.2.1, h1.2.1, z3, hg_1], by rw [List.append_assoc]⟩)) fun r K h => wok_r h.1
end
