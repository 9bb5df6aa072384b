/-! ===== a39: loops opened and closed (wip/whole2/lawa39.py) ===== -/
section
variable {nn : Nat} {T : Nat → Nat} {n M O : Nat} {G0 : wq_F} {c0 : List (List Nat)} {i t w s nw ns np N : Nat} {off voff ph : Nat → Nat} {cx : Nat → List Nat} {c cb : List Nat} {W : List (Nat × Nat × Nat × Nat)} {L : List (Nat × Nat)} {P Q : List (Nat × Nat × Nat)} {ls cs : List (List Nat)} {F G : wq_F}

variable {Jr Jc : List Nat}
theorem ry_op (hr : ry T n M i ls t w nw np W L P F) (hl : L.length < 60) : ∃ H, dk_227 F = some (0, H) ∧ ry T n M i ls t w nw np W ((4294967295, F 0 53) :: L) P H ∧ (∀ d j, ¬ ((d = 33 ∨ d = 34) ∧ j = L.length) → ¬ (d = 0 ∧ j = 56) → H d j = F d j) := by
  have h56 := hr.2.2.2.1.1
  refine ⟨wq_up (wq_up (wq_up F 33 L.length 4294967295) 34 L.length (F 0 53)) 0 56 (L.length + 1), ?_, ?_, fun d j a b => by rw [wq_up_ne b, wq_up_ne (by omega), wq_up_ne (by omega)]⟩
  · unfold dk_227
    rw [h56, od_g1 (by omega), od_upS, wq_up_cell (by decide), h56, od_g1 (by omega), od_upS, wq_up_cell (by decide), wq_up_cell (by decide), wq_up_cell (by decide), h56, od_upS, Nat.mod_eq_of_lt (show L.length + 1 < 4294967296 by omega)]
  · have x : ∀ d j, ¬ ((d = 33 ∨ d = 34) ∧ j = L.length) → ¬ (d = 0 ∧ j = 56) → wq_up (wq_up (wq_up F 33 L.length 4294967295) 34 L.length (F 0 53)) 0 56 (L.length + 1) d j = F d j := fun d j a b => by rw [wq_up_ne b, wq_up_ne (by omega), wq_up_ne (by omega)]
    have y : wq_up (wq_up (wq_up F 33 L.length 4294967295) 34 L.length (F 0 53)) 0 56 (L.length + 1) 33 L.length = 4294967295 ∧ wq_up (wq_up (wq_up F 33 L.length 4294967295) 34 L.length (F 0 53)) 0 56 (L.length + 1) 34 L.length = F 0 53 ∧ wq_up (wq_up (wq_up F 33 L.length 4294967295) 34 L.length (F 0 53)) 0 56 (L.length + 1) 0 56 = L.length + 1 := ⟨by rw [wq_up_cell (by decide), wq_up_cell (by decide), wq_up_same], by rw [wq_up_cell (by decide), wq_up_same], wq_up_same _ _ _ _⟩
    generalize wq_up (wq_up (wq_up F 33 L.length 4294967295) 34 L.length (F 0 53)) 0 56 (L.length + 1) = H at *
    obtain ⟨h1, h2, ⟨h3, h4⟩, ⟨h5, h6⟩, ⟨h7, h8⟩⟩ := hr
    exact ⟨pm_at_x h1 (fun c j a b => x c j (by omega) (by omega)) (fun j hj => x 0 j (by omega) (by omega)), ⟨(x 0 47 (by omega) (by omega)).trans h2.1, (x 0 41 (by omega) (by omega)).trans h2.2.1, (x 0 40 (by omega) (by omega)).trans h2.2.2.1, (x 0 34 (by omega) (by omega)).trans h2.2.2.2⟩, ⟨(x 0 46 (by omega) (by omega)).trans h3, ry_wa_x h4 (fun c j a b _ => x c j (by omega) (by omega))⟩, ⟨y.2.2, ⟨y.1, y.2.1⟩, ry_lo_x h6 (fun c j a b d => x c j (by omega) (by omega))⟩, ⟨(x 0 60 (by omega) (by omega)).trans h7, ry_pl_x h8 (fun c j a b _ => x c j (by omega) (by omega))⟩⟩
theorem ry_cl {e : Nat × Nat} (hr : ry T n M i ls t w nw np W (e :: L) P F) : ry T n M i ls t w nw np W L P (wq_up F 0 56 L.length) := by
  obtain ⟨h1, h2, ⟨h3, h4⟩, ⟨h5, h6⟩, ⟨h7, h8⟩⟩ := hr
  have x : ∀ d j, ¬ (d = 0 ∧ j = 56) → wq_up F 0 56 L.length d j = F d j := fun d j a => wq_up_ne a
  exact ⟨pm_at_x h1 (fun c j a b => x c j (by omega)) (fun j hj => x 0 j (by omega)), ⟨(x 0 47 (by omega)).trans h2.1, (x 0 41 (by omega)).trans h2.2.1, (x 0 40 (by omega)).trans h2.2.2.1, (x 0 34 (by omega)).trans h2.2.2.2⟩, ⟨(x 0 46 (by omega)).trans h3, ry_wa_x h4 (fun c j a b _ => x c j (by omega))⟩, ⟨wq_up_same _ _ _ _, ry_lo_x h6.2 (fun c j a b d => x c j (by omega))⟩, ⟨(x 0 60 (by omega)).trans h7, ry_pl_x h8 (fun c j a b _ => x c j (by omega))⟩⟩
/-- a loop's end on both sides -/
theorem lp_end {v a1 o : Nat} {d : List Nat} (hn : 14000 < nn) (hr : ry T n M i ls t w nw np W ((v, N - 1) :: L) P F) (hc : cy T n G0 c0 O i cs s ns np N Q G) (hb : bz N off voff ph cx c np F ls G cs) (hl : L.length < 60) (hw : w < 13990) (hs : s < 9990) (hjr : jc (F 21) v w Jr) (hjc : jc (G 14) (G 65 (N - 1)) s Jc) (ho : okj o) (hat : ∀ k, voff (N - 1) ≤ k → k < voff N → cx_at c (G 61 (ph k)) (F 30 k) → cx_at d (G 61 (ph k)) (F 30 k)) (hd2 : ∀ e ∈ d, e < F 14 (G 62 (N - 1)) + 5) :
    ∃ F' G', dk_228 nn F a1 = some (0, F') ∧ dk_120 nn G (hg d) o = some (0, G') ∧ ry T n M i ls t (w + 1) nw np W L P F' ∧ cy T n G0 c0 O i cs (s + 1) ns np N Q G' ∧ bz N off voff ph cx d np F' ls G' cs ∧ rm_fr F F' ∧ (F' 20 w = 20 ∧ F' 21 w = a1 ∧ ∀ d j, ¬ d = 0 → ¬ (20 ≤ d ∧ d ≤ 23 ∧ j = w) → F' d j = jl_up F 21 Jr w d j) ∧ (G' 12 s = 27 ∧ G' 13 s = hg d ∧ G' 65 (N - 1) = o ∧ ∀ d j, ¬ (12 ≤ d ∧ d ≤ 15 ∧ j = s) → ¬ (d = 11 ∧ j = 4) → ¬ (d = 65 ∧ j = N - 1) → ¬ (d = 64 ∧ j = N - 1) → G' d j = jl_up G 14 Jc s d j) := by
  obtain ⟨l1, l2, l3, l4⟩ := cy_lv hc hb
  have hw1 : F 0 41 = w := hr.2.1.2.1
  have h4 := hc.2.1.1
  have h56 : F 0 56 = L.length + 1 := hr.2.2.2.1.1
  have h33 : F 33 L.length = v := hr.2.2.2.1.2.1.1
  have e228 := dkS_228 (nn := nn) (a := a1) (d := L.length) (L := Jr) h56 (by omega) (by rw [h33]; exact jc_le hjr (by omega)) (by omega) hn
  have e120 := dkS_120 (nn := nn) (h := hg d) (o := o) (l := N - 1) (L := Jc) l1 l2 (jc_le hjc (by omega)) (by omega) (by omega)
  have r1 : ry T n M i ls t w nw np W L P (jl_up (wq_up F 0 56 L.length) 21 Jr (F 0 41)) := ry_jl (ry_cl hr)
  have w1 : jl_up (wq_up F 0 56 L.length) 21 Jr (F 0 41) 0 41 = w := r1.2.1.2.1
  have hat1 := pm_em_at (F := jl_up (wq_up F 0 56 L.length) 21 Jr (F 0 41)) (op := 20) (a := a1) (b := 0) (ln := 0)
  rw [w1] at hat1
  have c1 : cy T n G0 c0 O i cs s ns np N Q (wq_up (jl_up G 14 Jc (G 11 4)) 65 (N - 1) o) := cy_br (cy_jl hc (by rw [h4]; exact okj_p (by omega))) ho
  have s1 : wq_up (jl_up G 14 Jc (G 11 4)) 65 (N - 1) o 11 4 = s := c1.2.1.1
  have hat2 := pg_em_at (G := wq_up (jl_up G 14 Jc (G 11 4)) 65 (N - 1) o) (op := 27) (a := hg d) (b := 0) (ln := 0)
  rw [s1] at hat2
  have b1 : bz N off voff ph cx c np (pm_em (jl_up (wq_up F 0 56 L.length) 21 Jr (F 0 41)) 20 a1 0 0) ls (wq_up (jl_up G 14 Jc (G 11 4)) 65 (N - 1) o) cs := bz_gu (bz_G (bz_F hb (bzF_em (bzF_jl (bzF_up (bzF_refl _) (by omega))))) (bzG_jl (bzG_refl _)) (fun l _ => jl_ne (by omega))) (by omega)
  have x30 : pm_em (jl_up (wq_up F 0 56 L.length) 21 Jr (F 0 41)) 20 a1 0 0 30 = F 30 := funext fun j => by rw [pm_em_ne (by omega) (by omega), jl_ne (by omega), wq_up_cell (by decide)]
  have x14 : pm_em (jl_up (wq_up F 0 56 L.length) 21 Jr (F 0 41)) 20 a1 0 0 14 = F 14 := funext fun j => by rw [pm_em_ne (by omega) (by omega), jl_ne (by omega), wq_up_cell (by decide)]
  have x61 : wq_up (jl_up G 14 Jc (G 11 4)) 65 (N - 1) o 61 = G 61 := funext fun j => by rw [wq_up_cell (by decide), jl_ne (by omega)]
  have x62 : wq_up (jl_up G 14 Jc (G 11 4)) 65 (N - 1) o 62 = G 62 := funext fun j => by rw [wq_up_cell (by decide), jl_ne (by omega)]
  refine ⟨_, _, e228, e120, ry_em r1, cy_up (cy_em c1 (okj_p (by decide))) (by unfold cy_n; omega), bz_pu b1 rfl ?_ ?_, rm_fr_em (rm_fr_x (rm_fr_refl F) (fun c j a b e => by rw [jl_ne (by omega), wq_up_cell (by omega)]) ⟨by rw [jl_ne (by omega), wq_up_at (by decide)], by rw [jl_ne (by omega), wq_up_at (by decide)], by rw [jl_ne (by omega), wq_up_at (by decide)]⟩), ⟨hat1.1, hat1.2.1, fun d' j a b => ?_⟩, ⟨?_, ?_, ?_, fun d' j a b e g => ?_⟩⟩
  · rw [x30, x61]
    exact hat
  · rw [x14, x62]
    exact hd2
  · rw [pm_em_ne (by rw [w1]; exact b) (by omega), hw1]
    unfold jl_up
    by_cases z : d' = 21 ∧ j ∈ Jr
    · rw [if_pos z, if_pos z]
    · rw [if_neg z, if_neg z, wq_up_cell a]
  · rw [wq_up_cell (by decide)]
    exact hat2.1
  · rw [wq_up_cell (by decide)]
    exact hat2.2.1
  · rw [wq_up_cell (by decide), pg_em_ne (by omega) (by omega), wq_up_same]
  · rw [wq_up_ne g, pg_em_ne (by rw [s1]; exact a) b, wq_up_ne e, h4]
/-- the points of a loop whose condition stands first -/
theorem sg_wh {lv : Nat → Prop} {f : Nat} {A1 B1 A3 B3 A4 B4 A5 B5 A9 B9 : wq_F} {w3 s3 nw3 ns3 m m3 w5 s5 nw5 ns5 m5 a1 : Nat} {ls3 cs3 ls5 cs5 : List (List Nat)}
    (he : pj ls3 cs3 lv f cb A1 B1 (w + 1) (s + 1) nw ns m c A3 B3 w3 s3 nw3 ns3 m3 (0 :: c) [] []) (hk : pj ls5 cs5 lv f c A4 B4 (w3 + 1) (s3 + 1) nw3 ns3 m3 c A5 B5 w5 s5 nw5 ns5 m5 c Jr Jc) (hl : st_pre ls3 ls5) (hcs : st_pre cs3 cs5) (hlv : ∀ g, m ≤ g → ¬ lv g) (hf : f < m)
    (ka3 : ka A3 A9 w3 nw3 m3 lv) (kb3 : kb B3 B9 s3 ns3 m3 lv) (ka5 : ka (jl_up A5 21 (Jr ++ [w3]) (w5 + 1)) A9 w5 nw5 m5 lv) (kb5 : kb (jl_up B5 14 (Jc ++ [s3]) (s5 + 1)) B9 s5 ns5 m5 lv)
    (hA : A9 20 w = 0 ∧ A9 20 w3 = 22 ∧ A9 21 w3 = w5 + 1 ∧ A9 20 w5 = 21 ∧ A9 21 w5 = w ∧ A9 20 (w5 + 1) = 20 ∧ A9 21 (w5 + 1) = a1) (hB : B9 12 s = 0 ∧ B9 12 s3 = 22 ∧ B9 14 s3 = s5 + 1 ∧ B9 12 s5 = 21 ∧ B9 14 s5 = s ∧ B9 12 (s5 + 1) = 27 ∧ B9 13 (s5 + 1) = hg c) (ha1 : ∀ e ∈ c, e < a1 + 5) (cbx : List Nat) :
    sgm ls5 cs5 A9 B9 f w (w5 + 2) s (s5 + 2) nw nw5 ns ns5 m m5 c c [] [] cbx := by
  intro H J nm X wb sb e1 e2 e3 _ _ e6
  rw [jl_nil] at e1 e2
  obtain ⟨⟨p1, p2, p3, p4, p5⟩, _, _, _, sge⟩ := he
  obtain ⟨⟨q1, q2, q3, q4, q5⟩, _, _, ⟨qJ, qI⟩, sgk⟩ := hk
  obtain ⟨a1', a2', a3', a4', a5', a6', a7'⟩ := hA
  obtain ⟨b1', b2', b3', b4', b5', b6', b7'⟩ := hB
  have rA : ∀ d p, 20 ≤ d → d ≤ 23 → w ≤ p → p < w5 + 2 → H d p = A9 d p := e1.1
  have rB : ∀ d p, 12 ≤ d → d ≤ 15 → s ≤ p → p < s5 + 2 → J d p = B9 d p := e2.1
  -- the exit
  have ex : ∀ (Y : pt → Prop), (∀ u, X u → Y u) → ∀ a, (∀ e ∈ a, 5 ≤ e) → sg H J nm Y (f, w5 + 1, s5 + 1, a ++ c) := fun Y hY a ha => by
    refine sg_s (l := [(f, w5 + 1 + 1, s5 + 1 + 1, c)]) (Or.inl ⟨21, ?_, ?_, a, c, rfl, fun e he => by have := ha e he; omega, ?_, ?_, rfl⟩) (fun v hv => ?_)
    · exact (rA 20 (w5 + 1) (by decide) (by decide) (by omega) (by omega)).trans a6'
    · exact (rB 12 (s5 + 1) (by decide) (by decide) (by omega) (by omega)).trans b6'
    · exact (rB 13 (s5 + 1) (by decide) (by decide) (by omega) (by omega)).trans b7'
    · show ∀ e ∈ c, e < H 21 (w5 + 1) + 5
      rw [rA 21 (w5 + 1) (by decide) (by decide) (by omega) (by omega), a7']
      exact ha1
    · rw [List.mem_singleton.mp hv]
      exact sg_mono (fun u hu => sg_x (hY u hu)) e6
  refine sg_loop (l := [(f, w + 1, s + 1, c)]) (Or.inl ⟨0, (rA 20 w (by decide) (by decide) (by omega) (by omega)).trans a1', (rB 12 s (by decide) (by decide) (by omega) (by omega)).trans b1', rfl⟩) (fun v hv => ?_)
  rw [List.mem_singleton.mp hv]
  refine sge H J nm _ 0 0 ?_ ?_ (nmr_up e3 hl hcs) (fun j hj => absurd hj (List.not_mem_nil)) (fun z => absurd rfl z) ?_
  · rw [jl_nil]
    exact ag_2 (ag_1 e1 ka3 (by omega) (by omega) (by omega) hlv (by omega)) (by omega) (Nat.le_refl _) (Nat.le_refl _)
  · rw [jl_nil]
    exact bg_2 (bg_1 e2 kb3 (by omega) (by omega) (by omega) hlv) (by omega) (Nat.le_refl _) (Nat.le_refl _)
  refine sg_s (l := [(f, w3 + 1, s3 + 1, c), (f, w5 + 1, s5 + 1, c)]) (Or.inl ⟨24, ?_, ?_, ?_, c, rfl, ?_⟩) (fun v hv => ?_)
  · exact (rA 20 w3 (by decide) (by decide) (by omega) (by omega)).trans a2'
  · exact (rB 12 s3 (by decide) (by decide) (by omega) (by omega)).trans b2'
  · show w3 < H 21 w3
    rw [rA 21 w3 (by decide) (by decide) (by omega) (by omega), a3']
    omega
  · show _ = [(f, w3 + 1, s3 + 1, c), (f, H 21 w3, J 14 s3, c)]
    rw [rA 21 w3 (by decide) (by decide) (by omega) (by omega), a3', rB 14 s3 (by decide) (by decide) (by omega) (by omega), b3']
  · rcases List.mem_cons.mp hv with z | z
    · rw [z]
      refine sgk H J nm _ (w5 + 1) (s5 + 1) ?_ ?_ e3 (fun j hj => by have := qJ j hj; omega) (fun _ a ha => ex _ (fun u hu => Or.inl hu) a ha) ?_
      · have y := ag_2 (ag_1 e1 ka5 (by omega) (by omega) (by omega) hlv (by omega)) (show w ≤ w3 + 1 by omega) p3 p5
        obtain ⟨y1, y2, y3, y4⟩ := y
        refine ⟨fun d p z1 z2 z3 z4 => ?_, fun k z1 z2 => ?_, fun g z1 z2 => ?_, ?_⟩
        · rw [y1 d p z1 z2 z3 z4]
          unfold jl_up
          by_cases x : d = 21 ∧ p ∈ Jr
          · rw [if_pos x, if_pos ⟨x.1, List.mem_append_left _ x.2⟩]
          · rw [if_neg x, if_neg (fun y => (List.mem_append.mp y.2).elim (fun u => x ⟨y.1, u⟩) (fun u => by have := List.mem_singleton.mp u; omega))]
        · rw [y2 k z1 z2, jl_ne (by omega), jl_ne (by omega)]
        · have yy := y3 g z1 z2
          have nn' : ∀ (I : List Nat) (d j : Nat), ¬ d = 21 → jl_up A5 21 I (w5 + 1) d j = A5 d j := fun I d j hd => jl_ne (fun z => hd z.1)
          rw [nn' _ 12 _ (by decide), nn' _ 13 _ (by decide), nn' _ 15 _ (by decide), nn' _ 16 _ (by decide)] at yy ⊢
          refine ⟨yy.1, fun k hk => ?_⟩
          have y5 := yy.2 k hk
          rw [nn' _ 18 _ (by decide), nn' _ 19 _ (by decide)] at y5 ⊢
          exact y5
        · rw [jl_ne (by omega)] at y4 ⊢
          exact y4
      · have y := bg_2 (bg_1 e2 kb5 (by omega) (by omega) (by omega) hlv) (show s ≤ s3 + 1 by omega) p4 p5
        obtain ⟨y1, y2, y3⟩ := y
        refine ⟨fun d p z1 z2 z3 z4 => ?_, fun k z1 z2 => ?_, fun g z1 z2 => ?_⟩
        · rw [y1 d p z1 z2 z3 z4]
          unfold jl_up
          by_cases x : d = 14 ∧ p ∈ Jc
          · rw [if_pos x, if_pos ⟨x.1, List.mem_append_left _ x.2⟩]
          · rw [if_neg x, if_neg (fun y => (List.mem_append.mp y.2).elim (fun u => x ⟨y.1, u⟩) (fun u => by have := List.mem_singleton.mp u; omega))]
        · rw [y2 k z1 z2, jl_ne (by omega), jl_ne (by omega)]
        · have yy := y3 g z1 z2
          have nn' : ∀ (I : List Nat) (d j : Nat), ¬ d = 14 → jl_up B5 14 I (s5 + 1) d j = B5 d j := fun I d j hd => jl_ne (fun z => hd z.1)
          rw [nn' _ 17 _ (by decide), nn' _ 18 _ (by decide), nn' _ 20 _ (by decide), nn' _ 22 _ (by decide)] at yy ⊢
          refine ⟨yy.1, fun k hk => ?_⟩
          have y5 := yy.2 k hk
          rw [nn' _ 23 _ (by decide)] at y5 ⊢
          exact y5
      · refine sg_s (l := [(f, w, s, c)]) (Or.inl ⟨23, ?_, ?_, Or.inr ?_, ?_⟩) (fun v hv => ?_)
        · exact (rA 20 w5 (by decide) (by decide) (by omega) (by omega)).trans a4'
        · exact (rB 12 s5 (by decide) (by decide) (by omega) (by omega)).trans b4'
        · show H 20 (H 21 w5) = 0
          rw [rA 21 w5 (by decide) (by decide) (by omega) (by omega), a5']
          exact (rA 20 w (by decide) (by decide) (by omega) (by omega)).trans a1'
        · show _ = [(f, H 21 w5, J 14 s5, c)]
          rw [rA 21 w5 (by decide) (by decide) (by omega) (by omega), a5', rB 14 s5 (by decide) (by decide) (by omega) (by omega), b5']
        · rw [List.mem_singleton.mp hv]
          exact sg_x (Or.inr rfl)
    · rw [List.mem_singleton.mp z]
      exact ex _ (fun u hu => Or.inl hu) [] (fun e he => absurd he (List.not_mem_nil))
end
