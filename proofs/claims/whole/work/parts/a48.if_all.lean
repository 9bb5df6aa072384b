/-! ===== a48: if: a clause; the statement (wip/whole2/lawa48.py) ===== -/
section
variable {nn : Nat} {T : Nat → Nat} {n M O : Nat} {G0 : wq_F} {c0 : List (List Nat)} {i t w s nw ns np N : Nat} {off voff ph : Nat → Nat} {cx : Nat → List Nat} {c cb : List Nat} {W : List (Nat × Nat × Nat × Nat)} {L : List (Nat × Nat)} {P Q : List (Nat × Nat × Nat)} {ls cs : List (List Nat)} {F G : wq_F}

variable {JR JC Er Ec Jr0 Jc0 : List Nat} {B0 : wq_F} {wc sc e0 d0 : Nat}
theorem if_rest {D k g x m : Nat} (hM : tk_M T n M) (hn : 10000 < nn) (hc0 : c0.length ≤ 1400) (hO : O ≤ 20000) (hD : D ≤ 20) (htD : t = D) (hr : ry T n M i ls t w nw np ((24, wc, e0, 0) :: W) L P F) (hc : cy T n G0 c0 O i cs s ns np N Q G) (hb : bz N off voff ph cx c np F ls G cs) (hB : bnd i w s nw ns np t (hg c) W L P Q N) (hW : W.length ≤ 20 * t) (hL1 : L.length + 1 ≤ t) (hbo : bo N L F G w s JR JC) (hib : ib N L cb c) (hfs : fs c) (hch : jc (F 21) e0 w Er ∧ jc (G 14) d0 s Ec ∧ (∀ j ∈ Er, ¬ j ∈ JR) ∧ ∀ j ∈ Ec, ¬ j ∈ JC) (hwc : wc < w ∧ ¬ wc ∈ Er ∧ ¬ wc ∈ JR) (hsc : sc < s ∧ ¬ sc ∈ Ec ∧ ¬ sc ∈ JC ∧ G 14 sc = 4294967295) (h62B : ∀ l, l < N → G 62 l = B0 62 l) (hn2 : 14000 < nn) (hBk : Bk_ok nn T n M G0 c0 O (D + 1)) (hkf : 20 * (22 - D) + 8 ≤ k) (hCl : Cl_ok nn T n M G0 c0 O D k t N off voff ph cx c cb W P Q B0 m) (hx : x ≤ i) (hm : M < i + 1 + m) (hg : m < g) : wok (dk_122_15 (dk_R nn k) nn (g + 1) G D d0 sc x) (fun _ K => (∃ i' w' s' nw' ns' np' ls' cs' H L' Jr Jc wz sz, (rm_to nn F H ∧ rm_fr F H) ∧ ifs T n M G0 c0 O N off voff ph cx G i ls cs w s nw ns np c L JR JC t W P Q H K i' ls' cs' w' s' nw' ns' np' L' Jr Jc ∧ (H 21 wc = wz ∧ K 14 sc = sz ∧ w ≤ wz) ∧ (ka (jl_up (jl_up F 21 [wc] wz) 21 Er w') H w nw np (lvl N B0) ∧ kb (jl_up (jl_up G 14 [sc] sz) 14 Ec s') K s ns np (lvl N B0)) ∧ sgu ls' cs' H K (B0 62 (N - 1)) w w' s s' nw nw' ns ns' np np' c Jr Jc cb (B0 62 (N - 1), w, s, c) ∧ sgu ls' cs' H K (B0 62 (N - 1)) w w' s s' nw nw' ns ns' np np' c Jr Jc cb (B0 62 (N - 1), wz, sz, c) ∧ w' + 6 * i ≤ w + 6 * i' ∧ s' + 4 * i ≤ s + 4 * i' ∧ nw' + i ≤ nw + i' ∧ ns' + i ≤ ns + i') ∨ ∃ e p, rm_out nn e p F ∧ sx T n G0 c0 O e p N (zz D + 95) K) := by
  by_cases h5 : tk_k T n i = 4 ∧ tk_V T n (tk_pos T n i) = 5
  · exact if_elseif hM hn hc0 hO hD htD hr hc hb hB hW hL1 hbo hib hfs hch hwc hsc h62B hkf hCl hx hm hg h5
  · by_cases h4 : tk_k T n i = 4 ∧ tk_V T n (tk_pos T n i) = 4
    · exact if_else hM hn hc0 hO hD htD hr hc hb hB hW hL1 hbo hib hfs hch hwc hsc h62B hn2 hBk hkf hx h4
    · exact if_end hM hn hc0 hO hD htD hr hc hb hB hW hL1 hbo hib hfs hch hwc hsc h62B hn2 hx h5 h4
theorem jc_okj {R : Nat → Nat} {J : List Nat} {j b : Nat} (h : jc R j b J) (hb : b < 10000) : okj j := by
  cases J with
  | nil => exact okj_n h
  | cons z Z => exact okj_p (by have := h.1; have := h.2.1; omega)
theorem fa_jl {A H : wq_F} {I J : List Nat} {u v m f : Nat} {lv : Nat → Prop} (h : ka (jl_up (jl_up A 21 I u) 21 J v) H w nw m lv) (hf : f < m) : (∀ x, x < nw → H 24 x = A 24 x) ∧ (∀ g, g < m → ¬ lv g → (H 12 g = A 12 g ∧ H 13 g = A 13 g ∧ H 15 g = A 15 g ∧ H 16 g = A 16 g) ∧ ∀ x, x < 30 → H 18 (30 * g + x) = A 18 (30 * g + x) ∧ H 19 (30 * g + x) = A 19 (30 * g + x)) ∧ A 15 f ≤ H 15 f := by
  have n1 : ∀ d j, ¬ d = 21 → jl_up (jl_up A 21 I u) 21 J v d j = A d j := fun d j q => by rw [jl_ne (fun z => q z.1), jl_ne (fun z => q z.1)]
  refine ⟨fun x hx => (h.2.1 x hx).trans (n1 24 x (by decide)), fun g hg hl => ?_, ?_⟩
  · have z := h.2.2.1 g hg hl
    rw [n1 12 g (by decide), n1 13 g (by decide), n1 15 g (by decide), n1 16 g (by decide)] at z
    refine ⟨z.1, fun k hk => ?_⟩
    have z2 := z.2 k hk
    rw [n1 18 _ (by decide), n1 19 _ (by decide)] at z2
    exact z2
  · have z := (h.2.2.2 f hf).1
    rw [n1 15 f (by decide)] at z
    exact z
theorem fb_jl {A H : wq_F} {I J : List Nat} {u v m : Nat} {lv : Nat → Prop} (h : kb (jl_up (jl_up A 14 I u) 14 J v) H s ns m lv) : (∀ x, x < ns → H 16 x = A 16 x) ∧ ∀ g, g < m → ¬ lv g → (H 17 g = A 17 g ∧ H 18 g = A 18 g ∧ H 20 g = A 20 g ∧ H 22 g = A 22 g) ∧ ∀ x, x < 30 → H 23 (30 * g + x) = A 23 (30 * g + x) := by
  have n1 : ∀ d j, ¬ d = 14 → jl_up (jl_up A 14 I u) 14 J v d j = A d j := fun d j q => by rw [jl_ne (fun z => q z.1), jl_ne (fun z => q z.1)]
  refine ⟨fun x hx => (h.2.1 x hx).trans (n1 16 x (by decide)), fun g hg hl => ?_⟩
  have z := h.2.2.1 g hg hl
  rw [n1 17 g (by decide), n1 18 g (by decide), n1 20 g (by decide), n1 22 g (by decide)] at z
  refine ⟨z.1, fun k hk => ?_⟩
  have z2 := z.2 k hk
  rw [n1 23 _ (by decide)] at z2
  exact z2
theorem sx_cl2 {R : dk_Rt} {k g d D v x e p B : Nat} (hx : sx T n G0 c0 O e p N B G) (hB : B + 2 < 10000) (hk : 2 ≤ k) (hv : okj v) (hn : 10000 < nn) : wok (((dk_78 G 22 0 4294967295 0).bind fun y9 => (dk_163 y9.2 4294967295).bind fun y13 => (dk_R nn k 115 [d] y13.2).bind fun y17 => some (y9.1, y17.2)).bind fun y5 => dk_122_15 R nn (g + 1) y5.2 D v y5.1 x) (fun _ K => sx T n G0 c0 O e p N (B + 2) K) := by
  rw [Option.bind_assoc]
  refine wok_b (sx_78 hx (by omega) (okj_n (by decide))) fun r K h => ?_
  have hr := h.1
  dsimp only
  rw [Option.bind_assoc]
  refine wok_b (sx_163 h.2) fun r2 K h => ?_
  dsimp only
  rw [Option.bind_assoc]
  refine wok_b (sx_115 h hk hn (by omega)) fun r3 K h => ?_
  rw [od_bS]
  exact sx_122 h (by omega) hv (okj_p hr) hn
theorem sx_cl1 {R : dk_Rt} {k g d D v x e p B : Nat} (hx : sx T n G0 c0 O e p N B G) (hB : B + 2 < 10000) (hk : 2 ≤ k) (hv : okj v) (hn : 10000 < nn) : wok (((dk_110 nn G 27).bind fun y5 => (dk_78 y5.2 22 0 4294967295 0).bind fun y9 => (dk_163 y9.2 4294967295).bind fun y13 => (dk_R nn k 115 [d] y13.2).bind fun y17 => some (y9.1, y17.2)).bind fun y5 => dk_122_15 R nn (g + 1) y5.2 D v y5.1 x) (fun _ K => sx T n G0 c0 O e p N (B + 2) K) := by
  rw [Option.bind_assoc]
  refine wok_b (sx_110 hx (by decide)) fun r K h => ?_
  exact sx_cl2 h hB hk hv hn
/-- what a clause leads to -/
theorem clause_end {H3 K3 H9 K7 H5 K8 H K : wq_F} {w3 s3 nw3 ns3 np3 w5 s5 nw5 ns5 np5 w' s' nw' ns' np' wz sz : Nat} {ls3 cs3 ls5 cs5 ls' cs' : List (List Nat)} {Jr Jc Jr2 Jc2 : List Nat} (hN : 1 ≤ N) (h62 : ∀ l, l < N → B0 62 l < np)
    (he : pj ls3 cs3 (lvl N B0) (B0 62 (N - 1)) cb F G w s nw ns np c H3 K3 w3 s3 nw3 ns3 np3 (0 :: c) [] []) (hk : pj ls5 cs5 (lvl N B0) (B0 62 (N - 1)) cb H9 K7 (w3 + 1) (s3 + 1) nw3 ns3 np3 c H5 K8 w5 s5 nw5 ns5 np5 c Jr Jc)
    (hl : st_pre ls3 ls' ∧ st_pre ls5 ls') (hcs : st_pre cs3 cs' ∧ st_pre cs5 cs')
    (x9 : ∀ d j, ¬ d = 0 → ¬ (25 ≤ d ∧ d ≤ 28) → ¬ (20 ≤ d ∧ d ≤ 23 ∧ j = w3) → H9 d j = H3 d j) (y9 : H9 20 w3 = 22) (k7 : ∀ d j, (17 ≤ d ∧ d ≤ 23) ∨ (12 ≤ d ∧ d ≤ 15 ∧ j < s3) ∨ (d = 16 ∧ j < ns3) → K7 d j = K3 d j) (k7b : K7 12 s3 = 22)
    (hEr : (∀ j ∈ Er, j < w) ∧ ∀ j ∈ Ec, j < s) (q1 : H 21 w3 = wz ∧ K 14 s3 = sz ∧ w5 ≤ wz) (hj : (∀ j ∈ Jr2, w5 ≤ j ∧ j < w') ∧ ∀ j ∈ Jc2, s5 ≤ j ∧ j < s') (hm : nw5 ≤ nw' ∧ ns5 ≤ ns' ∧ np5 ≤ np' ∧ w5 ≤ w' ∧ s5 ≤ s')
    (ka' : ka (jl_up (jl_up H5 21 [w3] wz) 21 Er w') H w5 nw5 np5 (lvl N B0)) (kb' : kb (jl_up (jl_up K8 14 [s3] sz) 14 Ec s') K s5 ns5 np5 (lvl N B0))
    (S1 : sgu ls' cs' H K (B0 62 (N - 1)) w5 w' s5 s' nw5 nw' ns5 ns' np5 np' c Jr2 Jc2 cb (B0 62 (N - 1), w5, s5, c)) (S2 : sgu ls' cs' H K (B0 62 (N - 1)) w5 w' s5 s' nw5 nw' ns5 ns' np5 np' c Jr2 Jc2 cb (B0 62 (N - 1), wz, sz, c)) :
    (ka (jl_up F 21 Er w') H w nw np (lvl N B0) ∧ kb (jl_up G 14 Ec s') K s ns np (lvl N B0)) ∧ sgu ls' cs' H K (B0 62 (N - 1)) w w' s s' nw nw' ns ns' np np' c (Jr2 ++ Jr) (Jc2 ++ Jc) cb (B0 62 (N - 1), w, s, c) := by
  have he0 := he
  have hk0 := hk
  obtain ⟨⟨p1, p2, p3, p4, p5⟩, kaE, kbE, _, _⟩ := he0
  obtain ⟨⟨r1, r2, r3, r4, r5⟩, kaB, kbB, _, _⟩ := hk0
  have hlv : ∀ g, np ≤ g → ¬ lvl N B0 g := fun g hg ⟨l, l1, l2⟩ => by have := h62 l l1; omega
  have hf : B0 62 (N - 1) < np := h62 (N - 1) (by omega)
  have fa3 : ka H3 H5 w3 nw3 np3 (lvl N B0) := ka_trans (ka_x (fun d j q => x9 d j (by omega) (by omega) (by omega))) kaB (by omega) (Nat.le_refl _) (Nat.le_refl _)
  have fb3 : kb K3 K8 s3 ns3 np3 (lvl N B0) := kb_trans (kb_x (fun d j q => k7 d j (by omega))) kbB (by omega) (Nat.le_refl _) (Nat.le_refl _)
  have hH : ∀ d p, 20 ≤ d → d ≤ 23 → w ≤ p → p < w5 → ¬ p = w3 → H d p = H5 d p := fun d p a b e f g => by
    rw [ka'.1 d p a b f, jl_ne (fun z => by have := hEr.1 p z.2; omega), jl_ne (fun z => g (List.mem_singleton.mp z.2))]
  have hK : ∀ d p, 12 ≤ d → d ≤ 15 → s ≤ p → p < s5 → ¬ p = s3 → K d p = K8 d p := fun d p a b e f g => by
    rw [kb'.1 d p a b f, jl_ne (fun z => by have := hEr.2 p z.2; omega), jl_ne (fun z => g (List.mem_singleton.mp z.2))]
  refine ⟨⟨?_, ?_⟩, ?_⟩
  · refine ka_trans (ka_trans (ka_jl (ka_trans kaE fa3 p1 p3 p5)) (ka_x (w := w) (nw := nw) (m := np) (H := jl_up (jl_up H5 21 [w3] wz) 21 Er w') (fun d j q => ?_)) (Nat.le_refl _) (Nat.le_refl _) (Nat.le_refl _)) ka' (by omega) (by omega) (by omega)
    unfold jl_up
    by_cases z : d = 21 ∧ j ∈ Er
    · rw [if_pos z, if_pos z]
    · rw [if_neg z, if_neg z, if_neg (fun y => by have := List.mem_singleton.mp y.2; omega)]
  · refine kb_trans (kb_trans (kb_jl (kb_trans kbE fb3 p2 p4 p5)) (kb_x (w := s) (nw := ns) (m := np) (H := jl_up (jl_up K8 14 [s3] sz) 14 Ec s') (fun d j q => ?_)) (Nat.le_refl _) (Nat.le_refl _) (Nat.le_refl _)) kb' (by omega) (by omega) (by omega)
    unfold jl_up
    by_cases z : d = 14 ∧ j ∈ Ec
    · rw [if_pos z, if_pos z]
    · rw [if_neg z, if_neg z, if_neg (fun y => by have := List.mem_singleton.mp y.2; omega)]
  · refine sg_cl (A1 := F) (B1 := G) (A3 := H3) (B3 := K3) (A4 := H9) (B4 := K7) (A5 := H5) (B5 := K8) he hk hl hcs hlv hf hm (fun d p a b e f => ?_) (fun d p a b e f => ?_) (fun d p a b e f => hH d p a b (by omega) f (by omega)) (fun d p a b e f => hK d p a b (by omega) f (by omega)) fa3 fb3 (fa_jl ka' (by omega)) (fb_jl kb') ⟨?_, q1.1, by omega⟩ ⟨?_, q1.2.1⟩ hj S1 S2
    · rw [hH d p a b e (by omega) (by omega)]
      exact fa3.1 d p a b f
    · rw [hK d p a b e (by omega) (by omega)]
      exact fb3.1 d p a b f
    · rw [ka'.1 20 w3 (by decide) (by decide) (by omega), jl_ne (by omega), jl_ne (by omega), kaB.1 20 w3 (by decide) (by decide) (by omega)]
      exact y9
    · rw [kb'.1 12 s3 (by decide) (by decide) (by omega), jl_ne (by omega), jl_ne (by omega), kbB.1 12 s3 (by decide) (by decide) (by omega)]
      exact k7b
/-- a clause -/
theorem clause_ok {D k : Nat} (hM : tk_M T n M) (hn : 10000 < nn) (hc0 : c0.length ≤ 1400) (hO : O ≤ 20000) (hn2 : 14000 < nn) (hD : D ≤ 20) (hE : E_ok nn T n M G0 c0 O (D + 1)) (hBk : Bk_ok nn T n M G0 c0 O (D + 1)) (hkf : 20 * (22 - D) + 9 ≤ k) (htD : t = D) (hW : W.length ≤ 20 * t) (hfs : fs c) : ∀ m, Cl_ok nn T n M G0 c0 O D (k + 1) t N off voff ph cx c cb W P Q B0 m := by
  have hz : 6200 ≤ zz D ∧ zz D < 9800 ∧ zz (D + 1) + 110 = zz D := by unfold zz; omega
  have hM1 := hM.1
  intro m
  induction m with
  | zero => intro i w s nw ns np e0 d0 x g ls cs F G Er Ec JR JC L hm hx hg hr; have := hr.1.2.2.1; omega
  | succ m ih =>
    intro i w s nw ns np e0 d0 x g ls cs F G Er Ec JR JC L hm hx hg hr hc hb hB hL1 hbo hib hch h62B
    obtain ⟨g, rfl⟩ : ∃ a, g = a + 1 := ⟨g - 1, by omega⟩
    have hB0 := hB
    obtain ⟨m1, m2, m3, m4, m5, m6, m7, m8, m9, m10, m11, m12⟩ := hB0
    have hiM := hr.1.2.2.1
    have hN := hb.1.1
    have hw1 : F 0 41 = w := hr.2.1.2.1
    have h62 : ∀ l, l < N → B0 62 l < np := fun l hl => by rw [← h62B l hl]; exact hb.2.2.2.2.2.1 l hl
    have hJR : ∀ j ∈ JR, j < w := fun j hj => by
      rcases hbo.2 with ⟨v, L0, _, a, _⟩ | ⟨_, _, a, _⟩
      · exact jc_lt a j hj
      · rw [a] at hj; exact absurd hj (List.not_mem_nil)
    have hJC : ∀ j ∈ JC, j < s := fun j hj => by
      rcases hbo.2 with ⟨v, L0, _, _, a, _⟩ | ⟨_, _, _, a⟩
      · exact jc_lt a j hj
      · rw [a] at hj; exact absurd hj (List.not_mem_nil)
    have hEr : ∀ j ∈ Er, j < w := jc_lt hch.1
    have hEc : ∀ j ∈ Ec, j < s := jc_lt hch.2.1
    have hd0 : okj d0 := jc_okj hch.2.1 (by omega)
    rw [dk_Re_123]
    unfold dk_123
    rw [Nat.mod_eq_of_lt (show D + 1 < 4294967296 by omega), Option.bind_assoc]
    refine wok_b (hE k 0 0 i t w s nw ns np N off voff ph cx c cb ((23, e0, 0, 0) :: W) L P Q ls cs F G (by omega) (by unfold lim; omega) (by omega) hr hc hb ⟨m1, m2, m3, m4, m5, m6, m7, by show W.length + 1 ≤ _; omega, m9, m10, m11, m12⟩) fun r K3 h3 => ?_
    dsimp only
    rcases h3 with ⟨i3, w3, s3, nw3, ns3, np3, ls3, cs3, H3, g3, E3, ⟨u1, u2, u3, u4, u5⟩, _⟩ | ⟨e, p, ho, hx'⟩
    rotate_left
    · obtain ⟨g, rfl⟩ : ∃ a, g = a + 1 := ⟨g - 1, by omega⟩
      exact wok_m (sx_cl1 hx' (by omega) (by omega) hd0 hn) fun r K h => Or.inr ⟨e, p, ho, sx_le h (by omega)⟩
    have i3M := E3.1.1.2.2.1
    have n3 : np3 ≤ 50 := E3.2.2.2.2.2.2
    have w13 := E3.2.2.2.1.1
    have hgo := fun H => ry_go (nn := nn) (H := H) E3.1 (by show W.length < 4000; omega)
    have hba := fun k p => ry_ba (nn := nn) (k := k) (p := p) E3.1 (by show W.length < 4000; omega)
    have r4 := ry_pop E3.1
    have b4 : bz N off voff ph cx (0 :: c) np3 (wq_up H3 0 46 W.length) ls3 K3 cs3 := bz_fu E3.2.2.1 (by omega)
    have f4 : rm_fr H3 (wq_up H3 0 46 W.length) := rm_fr_up (rm_fr_refl _) (by decide) (by decide)
    have x4 : ∀ d j, ¬ d = 0 → wq_up H3 0 46 W.length d j = H3 d j := fun d j q => wq_up_cell q
    have h33 : dk_32 nn (wq_up H3 0 46 W.length) (23, e0, 0, 0).1 (23, e0, 0, 0).2.1 (23, e0, 0, 0).2.2.1 (23, e0, 0, 0).2.2.2 = dk_258 (wq_up H3 0 46 W.length) e0 := by
      show dk_32 nn (wq_up H3 0 46 W.length) 23 e0 0 0 = _
      rw [dk32_23b]
    generalize dk_32 nn (wq_up H3 0 46 W.length) (23, e0, 0, 0).1 (23, e0, 0, 0).2.1 (23, e0, 0, 0).2.2.1 (23, e0, 0, 0).2.2.2 = mm at *
    generalize wq_up H3 0 46 W.length = H4 at *
    unfold dk_258 at h33
    rw [Option.bind_assoc]
    refine wok_b (bt_wd (x := 18) (B := 6230) hM r4 E3.2.1 b4 (by decide) (by omega) hc0 hO (by omega) (by omega) n3 (by omega)) fun r K5 h5 => ?_
    dsimp only
    rcases h5 with ⟨iM5, e5, ms5, c5, b5, fx5, p5'⟩ | ⟨kk, e5, hx'⟩
    rotate_left
    · rw [e5, od_bS] at h33
      dsimp only at h33
      rw [if_pos rfl] at h33
      have ho := hba _ _ (rba_f h33 f4 (by rw [r4.2.1.2.1]; omega))
      obtain ⟨g, rfl⟩ : ∃ a, g = a + 1 := ⟨g - 1, by omega⟩
      exact wok_m (sx_cl2 hx' (by omega) (by omega) hd0 hn) fun r K h => Or.inr ⟨_, _, rm_to_out g3.1 g3.2 ho, sx_le h (by omega)⟩
    rw [e5, od_bS] at h33
    dsimp only at h33
    rw [if_neg (by decide)] at h33
    have r5 := ry_nx r4 iM5
    have f5 : rm_fr H3 (wq_up H4 0 25 (i3 + 1)) := rm_fr_up f4 (by decide) (by decide)
    have x5 : ∀ d j, ¬ d = 0 → wq_up H4 0 25 (i3 + 1) d j = H3 d j := fun d j q => (wq_up_cell q).trans (x4 d j q)
    have b5F : bz N off voff ph cx (0 :: c) np3 (wq_up H4 0 25 (i3 + 1)) ls3 K5 ms5 := bz_fu b5 (by omega)
    have h50 : wq_up H4 0 25 (i3 + 1) 0 50 = voff N := b5F.1.1.2.2.2.2.2.2.2.1
    have h41 : wq_up H4 0 25 (i3 + 1) 0 41 = w3 := r5.2.1.2.1
    generalize wq_up H4 0 25 (i3 + 1) = H5 at *
    rw [dkS_30 (by omega), od_bS, h41] at h33
    dsimp only at h33
    have at6 := pm_em_at (F := H5) (op := 22) (a := 0) (b := 0) (ln := 0)
    rw [h41] at at6
    rw [Option.bind_assoc]
    refine wok_b (cy_78 (op := 22) (a := 0) (b := 4294967295) (ln := 0) c5 b5F (by omega) (okj_n (by decide))) fun r K6 h6 => ?_
    dsimp only
    obtain ⟨hr6, c6, b6, i6, q6, _⟩ := h6
    rw [hr6, Option.bind_assoc]
    refine wok_b (cy_163 (h := 4294967295) (d := c) c6 b6 (by rw [hg_0]; omega) (fun k _ _ z => cx_at_dn (a := [0]) (fun e he => by rw [List.mem_singleton.mp he]; decide) z) (bz_cd (a := [0]) b6 rfl)) fun r7 K7 h7 => ?_
    dsimp only
    obtain ⟨c7, b7, q7, _⟩ := h7
    have r6 : ry T n M (i3 + 1) ls3 t (w3 + 1) nw3 np3 W L P (pm_em H5 22 0 0 0) := ry_em r5
    have b7F : bz N off voff ph cx c np3 (pm_em H5 22 0 0 0) ls3 K7 ms5 := bz_em b7
    have e7 := e_la (cb := cb) (x1 := 24) (x2 := w3) (x3 := e0) (x4 := 0) r6 c7 b7F n3
    have e8 := e_la (cb := cb) (x1 := 2) (x2 := voff N) (x3 := 0) (x4 := 0) e7.1 e7.2.1 e7.2.2.1 n3
    have e9 := e_la (cb := cb) (x1 := 0) (x2 := 0) (x3 := 0) (x4 := 0) e8.1 e8.2.1 e8.2.2.1 n3
    rw [dkS_31 (by rw [r6.2.2.1.1]; omega), od_bS] at h33
    dsimp only at h33
    unfold dk_224 at h33
    rw [pm_la_ne (by omega) (by omega), pm_em_ne (by omega) (by omega), h50, dkS_31 (by rw [e7.1.2.2.1.1]; show W.length + 1 < 4000; omega), od_bS] at h33
    dsimp only at h33
    rw [dkS_31 (by rw [e8.1.2.2.1.1]; show W.length + 2 < 4000; omega), od_bS, od_bS] at h33
    dsimp only at h33
    have f9 : rm_fr H3 (pm_la (pm_la (pm_la (pm_em H5 22 0 0 0) 24 w3 e0 0) 2 (voff N) 0 0) 0 0 0 0) := rm_fr_la (rm_fr_la (rm_fr_la (rm_fr_em f5)))
    have x9 : ∀ d j, ¬ d = 0 → ¬ (25 ≤ d ∧ d ≤ 28) → ¬ (20 ≤ d ∧ d ≤ 23 ∧ j = w3) → pm_la (pm_la (pm_la (pm_em H5 22 0 0 0) 24 w3 e0 0) 2 (voff N) 0 0) 0 0 0 0 d j = H3 d j := fun d j a b e => by
      rw [pm_la_ne (by omega) (by omega), pm_la_ne (by omega) (by omega), pm_la_ne (by omega) (by omega), pm_em_ne (by omega) (by omega), x5 d j a]
    have y9 : pm_la (pm_la (pm_la (pm_em H5 22 0 0 0) 24 w3 e0 0) 2 (voff N) 0 0) 0 0 0 0 20 w3 = 22 := by
      rw [pm_la_ne (by omega) (by omega), pm_la_ne (by omega) (by omega), pm_la_ne (by omega) (by omega)]
      exact at6.1
    generalize pm_la (pm_la (pm_la (pm_em H5 22 0 0 0) 24 w3 e0 0) 2 (voff N) 0 0) 0 0 0 0 = H9 at *
    have g9 := hgo _ (rgo_i h33 (by decide) e9.1.1.1 f9)
    -- the block
    have k7 : ∀ d j, (17 ≤ d ∧ d ≤ 23) ∨ (12 ≤ d ∧ d ≤ 15 ∧ j < s3) ∨ (d = 16 ∧ j < ns3) ∨ d = 62 ∨ d = 65 ∨ d = 61 ∨ d = 60 → K7 d j = K3 d j := fun d j q => by
      rw [q7 d j (by omega), q6 d j (by omega), fx5 d j (by omega) (by omega) (by omega)]
    have k7b : K7 12 s3 = 22 ∧ K7 14 s3 = 4294967295 := by
      obtain ⟨z1, z2, z3, z4⟩ := i6
      exact ⟨(q7 12 s3 (by omega)).trans z1, (q7 14 s3 (by omega)).trans z3⟩
    have k3G : ∀ l, l < N → K3 62 l = G 62 l ∧ K3 65 l = G 65 l := E3.2.2.2.2.1.2.2.1
    have kaE := E3.2.2.2.1.2.1
    have kbE := E3.2.2.2.1.2.2.1
    have x21 : ∀ j, j < w → H9 21 j = F 21 j := fun j hj => by
      rw [x9 21 j (by decide) (by omega) (by omega), kaE.1 21 j (by decide) (by decide) hj]
    have x14 : ∀ j, j < s → K7 14 j = G 14 j := fun j hj => by
      rw [k7 14 j (by omega), kbE.1 14 j (by decide) (by decide) hj]
    have hbo9 : bo N L H9 K7 (w3 + 1) (s3 + 1) JR JC := bo_y hbo (fun j hj => x21 j (hJR j hj)) (fun j hj => x14 j (hJC j hj)) ((k7 65 _ (by omega)).trans (k3G (N - 1) (by omega)).2) (by omega) (by omega)
    rw [Option.bind_assoc]
    refine wok_b (cb_ok (cb := cb) (k := k) hM hn hc0 hO (by omega) hBk (by omega) (by omega) e9.1 e9.2.1 e9.2.2.1 ⟨by omega, by omega, by omega, by omega, n3, m6, by omega, by show W.length + 1 ≤ _; omega, m9, m10, m11, m12⟩ (by show W.length + 1 ≤ _; omega) hbo9 hib hfs) fun r8 K8 h8 => ?_
    rw [od_bS]
    dsimp only
    rcases h8 with ⟨i5, w5, s5, nw5, ns5, np5, ls5, cs5, H5, L5, Jr, Jc, g5, ge5, v1, v2, v3, v4, v5⟩ | ⟨e, p, ho, hx'⟩
    rotate_left
    · exact wok_m (sxy_122 hx' (by omega) hd0 (okj_p (by omega)) hn) fun r K h => Or.inr ⟨e, p, rm_to_out g3.1 g3.2 (rm_to_out g9.1 g9.2 ho), sx_le h (by omega)⟩
    have i5M := ge5.1.1.2.2.1
    have n5 : np5 ≤ 50 := ge5.2.2.2.2.2.1.2
    have lt5 := ge5.2.2.2.2.2.2.2.2
    have bo5 := ge5.2.2.2.2.2.2.2.1
    have hL5 := lt2_len lt5
    have p5 := ge5.2.2.2.1
    have k7B : ∀ l, l < N → K7 62 l = B0 62 l := fun l hl => by rw [k7 62 l (by omega), (k3G l hl).1, h62B l hl]
    rw [lvl_eq k7B, k7B (N - 1) (by omega)] at p5
    have pE := E3.2.2.2.1
    rw [lvl_eq h62B, h62B (N - 1) (by omega)] at pE
    have w35 := p5.1
    have j5 := p5.2.2.2.1
    have x521 : ∀ j, j < w → H5 21 j = F 21 j := fun j hj => by
      rw [p5.2.1.1 21 j (by decide) (by decide) (by omega), x21 j hj]
    have x514 : ∀ j, j < s → K8 14 j = G 14 j := fun j hj => by
      rw [p5.2.2.1.1 14 j (by decide) (by decide) (by omega), x14 j hj]
    have gk5 := ge5.2.2.2.2.1.2.2
    have h62B5 : ∀ l, l < N → K8 62 l = B0 62 l := fun l hl => by rw [gk5.1 l hl, k7B l hl]
    have ch5 : jc (H5 21) e0 w5 Er ∧ jc (K8 14) d0 s5 Ec ∧ (∀ j ∈ Er, ¬ j ∈ Jr ++ JR) ∧ ∀ j ∈ Ec, ¬ j ∈ Jc ++ JC := by
      refine ⟨jc_le (jc_ext hch.1 (fun j hj => x521 j (hEr j hj))) (by omega), jc_le (jc_ext hch.2.1 (fun j hj => x514 j (hEc j hj))) (by omega), fun j hj hz => ?_, fun j hj hz => ?_⟩
      · rcases List.mem_append.mp hz with z | z
        · have := j5.1 j z; have := hEr j hj; omega
        · exact hch.2.2.1 j hj z
      · rcases List.mem_append.mp hz with z | z
        · have := j5.2 j z; have := hEc j hj; omega
        · exact hch.2.2.2 j hj z
    have wc5 : w3 < w5 ∧ ¬ w3 ∈ Er ∧ ¬ w3 ∈ Jr ++ JR := by
      refine ⟨by omega, fun z => by have := hEr _ z; omega, fun z => ?_⟩
      rcases List.mem_append.mp z with y | y
      · have := j5.1 _ y; omega
      · have := hJR _ y; omega
    have sc5 : s3 < s5 ∧ ¬ s3 ∈ Ec ∧ ¬ s3 ∈ Jc ++ JC ∧ K8 14 s3 = 4294967295 := by
      refine ⟨by omega, fun z => by have := hEc _ z; omega, fun z => ?_, ?_⟩
      · rcases List.mem_append.mp z with y | y
        · have := j5.2 _ y; omega
        · have := hJC _ y; omega
      · rw [p5.2.2.1.1 14 s3 (by decide) (by decide) (by omega)]
        exact k7b.2
    refine wok_m (if_rest (wc := w3) (sc := s3) (JR := Jr ++ JR) (JC := Jc ++ JC) hM hn hc0 hO hD htD ge5.1 ge5.2.1 ge5.2.2.1 ⟨by omega, by omega, by omega, by omega, n5, m6, by omega, m8, ⟨by omega, bo5.1⟩, m10, m11, m12⟩ hW (by omega) bo5 (ib_t hib (lo_refl (N := N) (voff := voff) (ph := ph) (K := K8) rfl) lt5) hfs ch5 wc5 sc5 h62B5 hn2 hBk (by omega) ih (by omega) (by omega) (by omega)) fun r K h => ?_
    rcases h with ⟨i', w', s', nw', ns', np', ls', cs', H, L', Jr2, Jc2, wz, sz, g', ⟨⟨z1, z2, z3⟩, ⟨y1, y2, y3, y4, y5, y6, y7⟩, ⟨j1, j2⟩, ⟨s1, s2, s3'⟩, bo', lt'⟩, q1, ⟨ka', kb'⟩, S1, S2, v6, v7, v8, v9⟩ | ⟨e, p, ho, hx'⟩
    rotate_left
    · exact Or.inr ⟨e, p, rm_to_out g3.1 g3.2 (rm_to_out g9.1 g9.2 (rm_to_out g5.1 g5.2 ho)), hx'⟩
    have X := clause_end (Er := Er) (Ec := Ec) (by omega) h62 pE p5 ⟨st_pre_trans ge5.2.2.2.2.1.1.1 s1.1, s1.1⟩ ⟨st_pre_trans p5' (st_pre_trans ge5.2.2.2.2.1.2.1 s2), s2⟩ x9 y9 (fun d j q => k7 d j (by omega)) k7b.1 ⟨hEr, hEc⟩ q1 ⟨j1, j2⟩ ⟨y3, y4, y5, y1, y2⟩ ka' kb' S1 S2
    refine Or.inl ⟨i', w', s', nw', ns', np', ls', cs', H, L', Jr2 ++ Jr, Jc2 ++ Jc, ⟨rm_trans g3.1 (rm_trans g9.1 (rm_trans g5.1 g'.1)), rm_fr_trans g3.2 (rm_fr_trans g9.2 (rm_fr_trans g5.2 g'.2))⟩, ⟨⟨z1, z2, z3⟩, ⟨by omega, by omega, by omega, by omega, by omega, y6, by omega⟩, ⟨fun j hj => ?_, fun j hj => ?_⟩, ⟨st_sf_trans E3.2.2.2.2.1.1 (st_sf_trans ge5.2.2.2.2.1.1 s1), st_pre_trans E3.2.2.2.2.1.2.1 (st_pre_trans p5' (st_pre_trans ge5.2.2.2.2.1.2.1 s2)), ⟨fun l hl => ?_, fun l hl => ?_, fun l hl e6 h6 => ?_⟩⟩, ?_, lt2_t lt5 lt'⟩, X.1, X.2, by omega, by omega, by omega, by omega⟩
    · rcases List.mem_append.mp hj with z | z
      · have := j1 j z; omega
      · have := j5.1 j z; omega
    · rcases List.mem_append.mp hj with z | z
      · have := j2 j z; omega
      · have := j5.2 j z; omega
    · rw [s3'.1 l hl, gk5.1 l hl, k7 62 l (by omega), (k3G l hl).1]
    · rw [s3'.2.1 l hl, gk5.2.1 l hl, k7 65 l (by omega), (k3G l (by omega)).2]
    · rw [s3'.2.2 l hl e6 h6, gk5.2.2 l hl e6 h6, k7 e6 l (by omega), E3.2.2.2.2.1.2.2.2 l hl e6 h6]
    · rw [List.append_assoc, List.append_assoc]
      exact bo'
/-- if -/
theorem st_if {D k : Nat} (hM : tk_M T n M) (hn : 10000 < nn) (hc0 : c0.length ≤ 1400) (hO : O ≤ 20000) (hn2 : 14000 < nn) (hD : D ≤ 20) (hE : E_ok nn T n M G0 c0 O (D + 1)) (hBk : Bk_ok nn T n M G0 c0 O (D + 1)) (hkf : 20 * (22 - D) + 9 ≤ k) (htD : t = D) (hr : ry T n M i ls t w nw np W L P F) (hc : cy T n G0 c0 O i cs s ns np N Q G) (hb : bz N off voff ph cx c np F ls G cs) (hB : bnd i w s nw ns np t (hg c) W L P Q N) (hW : W.length ≤ 20 * t) (hNt : N ≤ t) (hL1 : L.length + 1 ≤ t) (hbo : bo N L F G w s Jr0 Jc0) (hib : ib N L cb c) (hfs : fs c) (hk : tk_k T n i = 4 ∧ tk_V T n (tk_pos T n i) = 10) : wok (dk_122 (dk_R nn (k + 1)) nn G D) (fun _ K => (∃ i' w' s' nw' ns' np' ls' cs' H c' off' voff' ph' L' Jr Jc, rgo nn F ((dk_212 F).bind fun y24 => if y24.1 = 0 then some (0, y24.2) else (dk_31 y24.2 23 4294967295 0 0).bind fun y80 => (dk_31 y80.2 3 0 0 0).bind fun y84 => some (1, y84.2)) H ∧ ge T n M G0 c0 O N cx cb F G i ls cs w s nw ns np c off voff ph L Jr0 Jc0 t W P Q H K i' ls' cs' w' s' nw' ns' np' c' off' voff' ph' L' Jr Jc ∧ lo N voff c voff' ph' c' K ∧ rts i w s nw ns i' (w' + 1) (s' + 1) nw' ns' ∧ hg c' + 2 * i ≤ hg c + 2 * i') ∨ ∃ e p, rba nn F ((dk_212 F).bind fun y24 => if y24.1 = 0 then some (0, y24.2) else (dk_31 y24.2 23 4294967295 0 0).bind fun y80 => (dk_31 y80.2 3 0 0 0).bind fun y84 => some (1, y84.2)) e p ∧ sx T n G0 c0 O e p N (zz D + 98) K) := by
  have hz : 6200 ≤ zz D ∧ zz D < 9800 ∧ zz (D + 1) + 110 = zz D := by unfold zz; omega
  obtain ⟨m1, m2, m3, m4, m5, m6, m7, m8, m9, m10, m11, m12⟩ := hB
  have hM1 := hM.1
  have hiM := hr.1.2.2.1
  have hN := hb.1.1
  have h62 := hb.2.2.2.2.2.1
  have hw1 : F 0 41 = w := hr.2.1.2.1
  unfold dk_122
  refine wok_b (e_77 (cb := cb) (B := 6200) hM hr hc hb (by omega) (by omega) hn hc0 hO (by omega) (by omega) m5 (by omega)) fun r K1 h1 => ?_
  dsimp only
  rcases h1 with ⟨ms, iM, e1, E1, f1⟩ | ⟨e1, hx⟩
  rotate_left
  · have hd : ((dk_212 F).bind fun y24 => if y24.1 = 0 then some (0, y24.2) else (dk_31 y24.2 23 4294967295 0 0).bind fun y80 => (dk_31 y80.2 3 0 0 0).bind fun y84 => some (1, y84.2)) = some (0, pm_f F 3 (tk_pos T n i)) := by
      rw [e1, od_bS]
      dsimp only
      rw [if_pos rfl]
    have ho := rba_f (nn := nn) hd (rm_fr_refl _) (by omega)
    refine wok_b (sx_123 hx (by omega) (by omega) hn) fun r K h => ?_
    obtain ⟨nn', hnn⟩ : ∃ a, nn = a + 1 := ⟨nn - 1, by omega⟩
    have y := sx_122 (R := dk_R nn (k + 1)) (g := nn') (d := D) (x := 0) (v2 := 4294967295) h.2 (by omega) (okj_n (by decide)) (okj_p h.1) hn
    rw [← hnn] at y
    exact wok_m y fun r K h => Or.inr ⟨_, _, ho, sx_le h (by omega)⟩
  have ff1 : rm_fr F (wq_up F 0 25 (i + 1)) := rm_fr_up (rm_fr_refl _) (by decide) (by decide)
  have hd0 : ((dk_212 F).bind fun y24 => if y24.1 = 0 then some (0, y24.2) else (dk_31 y24.2 23 4294967295 0 0).bind fun y80 => (dk_31 y80.2 3 0 0 0).bind fun y84 => some (1, y84.2)) = (dk_31 (wq_up F 0 25 (i + 1)) 23 4294967295 0 0).bind fun y80 => (dk_31 y80.2 3 0 0 0).bind fun y84 => some (1, y84.2) := by
    rw [e1, od_bS]
    dsimp only
    rw [if_neg (by decide)]
  generalize ((dk_212 F).bind fun y24 => if y24.1 = 0 then some (0, y24.2) else (dk_31 y24.2 23 4294967295 0 0).bind fun y80 => (dk_31 y80.2 3 0 0 0).bind fun y84 => some (1, y84.2)) = mm at *
  generalize wq_up F 0 25 (i + 1) = F1 at *
  have e3 := e_la (cb := cb) (x1 := 23) (x2 := 4294967295) (x3 := 0) (x4 := 0) E1.1 E1.2.1 E1.2.2.1 m5
  have e4 := e_la (cb := cb) (x1 := 3) (x2 := 0) (x3 := 0) (x4 := 0) e3.1 e3.2.1 e3.2.2.1 m5
  have h621 := E1.2.2.1.2.2.2.2.2.1
  have E4 := eg_t e3 e4 h621
  have E14 := eg_t E1 E4 h62
  rw [dkS_31 (by rw [E1.1.2.2.1.1]; omega), od_bS] at hd0
  dsimp only at hd0
  rw [dkS_31 (by rw [e3.1.2.2.1.1]; show W.length + 1 < 4000; omega), od_bS] at hd0
  have ff4 : rm_fr F (pm_la (pm_la F1 23 4294967295 0 0) 3 0 0 0) := rm_fr_la (rm_fr_la ff1)
  generalize pm_la (pm_la F1 23 4294967295 0 0) 3 0 0 0 = F4 at *
  have g4 : rgo nn F mm F4 := rgo_i hd0 (by decide) E4.1.1.1 ff4
  have G14 := ge_eg E14 hbo
  have bo4 := G14.2.2.2.2.2.2.2.1
  refine wok_m (clause_ok (off := off) (voff := voff) (ph := ph) (cx := cx) (cb := cb) (N := N) (P := P) (Q := Q) (B0 := K1) hM hn hc0 hO hn2 hD hE hBk hkf htD hW hfs (M + 1) (i + 1) w s nw ns np 4294967295 4294967295 0 nn ls ms F4 K1 [] [] Jr0 Jc0 L (by omega) (by omega) (by omega) E4.1 E4.2.1 E4.2.2.1 ⟨by omega, by omega, by omega, by omega, m5, m6, by omega, m8, m9, m10, m11, m12⟩ hL1 bo4 hib ⟨⟨by decide, by decide⟩, ⟨by decide, by decide⟩, fun j hj => absurd hj (List.not_mem_nil), fun j hj => absurd hj (List.not_mem_nil)⟩ (fun l _ => rfl)) fun r K h => ?_
  rcases h with ⟨i', w', s', nw', ns', np', ls', cs', H, L', Jr, Jc, g', ⟨⟨z1, z2, z3⟩, ⟨y1, y2, y3, y4, y5, y6, y7⟩, ⟨j1, j2⟩, ⟨s1, s2, s3⟩, bo', lt'⟩, ⟨ka', kb'⟩, SG, v1, v2, v3, v4⟩ | ⟨e, p, ho, hx'⟩
  rotate_left
  · exact Or.inr ⟨e, p, rgo_o g4 ho, sx_le hx' (by omega)⟩
  rw [jl_nil] at ka' kb'
  have PJ : pj ls' cs' (lvl N K1) (K1 62 (N - 1)) cb F4 K1 w s nw ns np c H K w' s' nw' ns' np' c Jr Jc := ⟨⟨y1, y2, y3, y4, y5⟩, ka', kb', ⟨j1, j2⟩, SG⟩
  have GE := ge_t G14 (⟨z1, z2, z3, PJ, ⟨s1, s2, s3⟩, ⟨by omega, y6⟩, ve_refl, bo', lt'⟩ : ge T n M G0 c0 O N cx cb F4 K1 (i + 1) ls ms w s nw ns np c off voff ph L ([] ++ Jr0) ([] ++ Jc0) t W P Q H K i' ls' cs' w' s' nw' ns' np' c off voff ph L' Jr Jc) h62
  exact Or.inl ⟨i', w', s', nw', ns', np', ls', cs', H, c, off, voff, ph, L', Jr ++ [], Jc ++ [], rgo_t g4 g', GE, lo_refl rfl, ⟨by omega, by omega, by omega, by omega, by omega⟩, by omega⟩
end
