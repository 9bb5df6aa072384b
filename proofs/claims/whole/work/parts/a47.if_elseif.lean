/-! ===== a47: if, all of it (wip/whole2/lawa47.py) ===== -/
section
variable {nn : Nat} {T : Nat → Nat} {n M O : Nat} {G0 : wq_F} {c0 : List (List Nat)} {i t w s nw ns np N : Nat} {off voff ph : Nat → Nat} {cx : Nat → List Nat} {c cb : List Nat} {W : List (Nat × Nat × Nat × Nat)} {L : List (Nat × Nat)} {P Q : List (Nat × Nat × Nat)} {ls cs : List (List Nat)} {F G : wq_F}

variable {JR JC Er Ec : List Nat} {B0 : wq_F} {wc sc e0 d0 : Nat}
theorem ka_wc {F6 H : wq_F} {v m : Nat} {lv : Nat → Prop} (h : ka (jl_up F6 21 (w :: Er) v) H (w + 1) nw m lv) (x : ∀ d j, (12 ≤ d ∧ d ≤ 24) → ¬ (20 ≤ d ∧ d ≤ 23 ∧ j = w) → ¬ (d = 21 ∧ j = wc) → F6 d j = F d j) (y : F6 21 wc = w + 1) : ka (jl_up (jl_up F 21 [wc] (w + 1)) 21 Er v) H w nw m lv := by
  have n1 : ∀ d j, 12 ≤ d ∧ d ≤ 19 → jl_up F6 21 (w :: Er) v d j = jl_up (jl_up F 21 [wc] (w + 1)) 21 Er v d j := fun d j q => by
    rw [jl_ne (by omega), jl_ne (by omega), jl_ne (by omega), x d j (by omega) (by omega) (by omega)]
  refine ⟨fun d p a b e => ?_, fun k hk => ?_, fun g hg hl => ?_, fun g hg => ?_⟩
  · rw [h.1 d p a b (by omega)]
    unfold jl_up
    by_cases q1 : d = 21 ∧ p ∈ Er
    · rw [if_pos q1, if_pos ⟨q1.1, List.mem_cons_of_mem _ q1.2⟩]
    · rw [if_neg q1, if_neg (fun z => (List.mem_cons.mp z.2).elim (fun u => by omega) (fun u => q1 ⟨z.1, u⟩))]
      by_cases q2 : d = 21 ∧ p ∈ [wc]
      · rw [if_pos q2, q2.1, List.mem_singleton.mp q2.2]
        exact y
      · rw [if_neg q2, x d p (by omega) (by omega) (fun z => q2 ⟨z.1, List.mem_singleton.mpr z.2⟩)]
  · rw [h.2.1 k hk, jl_ne (by omega), jl_ne (by omega), jl_ne (by omega), x 24 k (by omega) (by omega) (by omega)]
  · have z := h.2.2.1 g hg hl
    rw [n1 12 g (by decide), n1 13 g (by decide), n1 15 g (by decide), n1 16 g (by decide)] at z
    refine ⟨z.1, fun k hk => ?_⟩
    have z2 := z.2 k hk
    rw [n1 18 _ (by decide), n1 19 _ (by decide)] at z2
    exact z2
  · have z := h.2.2.2 g hg
    rw [n1 12 g (by decide), n1 13 g (by decide), n1 15 g (by decide)] at z
    exact z
theorem kb_wc {G6 K : wq_F} {v m : Nat} {lv : Nat → Prop} (h : kb (jl_up G6 14 (s :: Ec) v) K (s + 1) ns m lv) (x : ∀ d j, (17 ≤ d ∧ d ≤ 23) ∨ (12 ≤ d ∧ d ≤ 15 ∧ j < s ∧ ¬ (d = 14 ∧ j = sc)) ∨ (d = 16 ∧ j < ns) → G6 d j = G d j) (y : G6 14 sc = s + 1) : kb (jl_up (jl_up G 14 [sc] (s + 1)) 14 Ec v) K s ns m lv := by
  have n1 : ∀ d j, 17 ≤ d ∧ d ≤ 23 → jl_up G6 14 (s :: Ec) v d j = jl_up (jl_up G 14 [sc] (s + 1)) 14 Ec v d j := fun d j q => by
    rw [jl_ne (by omega), jl_ne (by omega), jl_ne (by omega), x d j (by omega)]
  refine ⟨fun d p a b e => ?_, fun k hk => ?_, fun g hg hl => ?_, fun g hg => ?_⟩
  · rw [h.1 d p a b (by omega)]
    unfold jl_up
    by_cases q1 : d = 14 ∧ p ∈ Ec
    · rw [if_pos q1, if_pos ⟨q1.1, List.mem_cons_of_mem _ q1.2⟩]
    · rw [if_neg q1, if_neg (fun z => (List.mem_cons.mp z.2).elim (fun u => by omega) (fun u => q1 ⟨z.1, u⟩))]
      by_cases q2 : d = 14 ∧ p ∈ [sc]
      · rw [if_pos q2, q2.1, List.mem_singleton.mp q2.2]
        exact y
      · have q3 : ¬ (d = 14 ∧ p = sc) := fun z => q2 ⟨z.1, List.mem_singleton.mpr z.2⟩
        rw [if_neg q2, x d p (by omega)]
  · rw [h.2.1 k hk, jl_ne (by omega), jl_ne (by omega), jl_ne (by omega), x 16 k (by omega)]
  · have z := h.2.2.1 g hg hl
    rw [n1 17 g (by decide), n1 18 g (by decide), n1 20 g (by decide), n1 22 g (by decide)] at z
    refine ⟨z.1, fun k hk => ?_⟩
    have z2 := z.2 k hk
    rw [n1 23 _ (by decide)] at z2
    exact z2
  · have z := h.2.2.2 g hg
    rw [n1 17 g (by decide), n1 18 g (by decide), n1 19 g (by decide)] at z
    exact z
theorem sx_123 {k d e p B : Nat} (hx : sx T n G0 c0 O e p N B G) (hB : B + 2 < 10000) (hk : 3 ≤ k) (hn : 10000 < nn) : wok (dk_R nn k 123 [d] G) (fun r K => r < 10000 ∧ sx T n G0 c0 O e p N (B + 2) K) := by
  obtain ⟨k, rfl⟩ : ∃ a, k = a + 1 := ⟨k - 1, by omega⟩
  rw [dk_Re_123]
  unfold dk_123
  refine wok_b (sx_148 hx (by omega)) fun r K h => ?_
  refine wok_b (sx_110 h.2 (by decide)) fun r K h => ?_
  refine wok_b (sx_78 h (by omega) (okj_n (by decide))) fun r K h => ?_
  have hr := h.1
  refine wok_b (sx_163 h.2) fun r2 K h => ?_
  exact wok_b (sx_115 h (by omega) hn (by omega)) fun r3 K h => wok_r ⟨hr, h⟩
/-- elseif -/
theorem if_elseif {D k g x m : Nat} (hM : tk_M T n M) (hn : 10000 < nn) (hc0 : c0.length ≤ 1400) (hO : O ≤ 20000) (hD : D ≤ 20) (htD : t = D) (hr : ry T n M i ls t w nw np ((24, wc, e0, 0) :: W) L P F) (hc : cy T n G0 c0 O i cs s ns np N Q G) (hb : bz N off voff ph cx c np F ls G cs) (hB : bnd i w s nw ns np t (hg c) W L P Q N) (hW : W.length ≤ 20 * t) (hL1 : L.length + 1 ≤ t) (hbo : bo N L F G w s JR JC) (hib : ib N L cb c) (hfs : fs c) (hch : jc (F 21) e0 w Er ∧ jc (G 14) d0 s Ec ∧ (∀ j ∈ Er, ¬ j ∈ JR) ∧ ∀ j ∈ Ec, ¬ j ∈ JC) (hwc : wc < w ∧ ¬ wc ∈ Er ∧ ¬ wc ∈ JR) (hsc : sc < s ∧ ¬ sc ∈ Ec ∧ ¬ sc ∈ JC ∧ G 14 sc = 4294967295) (h62B : ∀ l, l < N → G 62 l = B0 62 l) (hkf : 20 * (22 - D) + 8 ≤ k) (hCl : Cl_ok nn T n M G0 c0 O D k t N off voff ph cx c cb W P Q B0 m) (hx : x ≤ i) (hm : M < i + 1 + m) (hg : m < g) (h5 : tk_k T n i = 4 ∧ tk_V T n (tk_pos T n i) = 5) : wok (dk_122_15 (dk_R nn k) nn (g + 1) G D d0 sc x) (fun _ K => (∃ i' w' s' nw' ns' np' ls' cs' H L' Jr Jc wz sz, (rm_to nn F H ∧ rm_fr F H) ∧ ifs T n M G0 c0 O N off voff ph cx G i ls cs w s nw ns np c L JR JC t W P Q H K i' ls' cs' w' s' nw' ns' np' L' Jr Jc ∧ (H 21 wc = wz ∧ K 14 sc = sz ∧ w ≤ wz) ∧ (ka (jl_up (jl_up F 21 [wc] wz) 21 Er w') H w nw np (lvl N B0) ∧ kb (jl_up (jl_up G 14 [sc] sz) 14 Ec s') K s ns np (lvl N B0)) ∧ sgu ls' cs' H K (B0 62 (N - 1)) w w' s s' nw nw' ns ns' np np' c Jr Jc cb (B0 62 (N - 1), w, s, c) ∧ sgu ls' cs' H K (B0 62 (N - 1)) w w' s s' nw nw' ns ns' np np' c Jr Jc cb (B0 62 (N - 1), wz, sz, c) ∧ w' + 6 * i ≤ w + 6 * i' ∧ s' + 4 * i ≤ s + 4 * i' ∧ nw' + i ≤ nw + i' ∧ ns' + i ≤ ns + i') ∨ ∃ e p, rm_out nn e p F ∧ sx T n G0 c0 O e p N (zz D + 95) K) := by
  have hz : 6200 ≤ zz D ∧ zz D < 9800 := by unfold zz; omega
  obtain ⟨F1, f1, hgo, hba, r1, ⟨y1a, y1b, y1c⟩, x1, x50, x53, wcl⟩ := if_jump (nn := nn) hM hn hc0 hO hD htD hr hc hb hB hW hL1 hbo hib hfs hch hwc hsc h62B ⟨h5.1, Or.inl h5.2⟩
  obtain ⟨m1, m2, m3, m4, m5, m6, m7, m8, m9, m10, m11, m12⟩ := hB
  have hM1 := hM.1
  have hiM := hr.1.2.2.1
  have h57 : G 57 4 = tk_ty T n (tk_pos T n i) := hc.1.2.1.1
  simp only [if_ck, if_pos h5.2] at hgo hba
  show wok (dk_122_15b (dk_R nn k) nn (dk_122_15 (dk_R nn k) nn g) G D d0 sc x) _
  unfold dk_122_15b
  refine wok_f (fun z => by have := (wd_slt (by decide) (by omega)).mp z; omega) ?_
  refine wok_t (h57.trans ((tk_ty_word (w := 5) (by decide)).mpr h5)) ?_
  obtain ⟨r0, K0, eK, hr0, c2, b2, ⟨k1, k2, k3⟩, kx⟩ := wcl
  have st : (dk_78 G 21 0 d0 0).bind (fun y3 => (dk_159 nn y3.2 sc).bind fun y7 => (dk_77 nn y7.2).bind fun y11 => (dk_R nn k 123 [D] y11.2).bind fun y15 => od_let ((x + 1) % 4294967296) fun y19 => dk_122_15 (dk_R nn k) nn g y15.2 D y3.1 y15.1 y19) = (dk_77 nn K0).bind fun y11 => (dk_R nn k 123 [D] y11.2).bind fun y15 => od_let ((x + 1) % 4294967296) fun y19 => dk_122_15 (dk_R nn k) nn g y15.2 D r0 y15.1 y19 := by
    cases h78 : dk_78 G 21 0 d0 0 with
    | none => rw [h78] at eK; cases eK
    | some y =>
      rw [h78, od_bS] at eK
      rw [od_bS]
      cases h159 : dk_159 nn y.2 sc with
      | none => rw [h159] at eK; cases eK
      | some z =>
        rw [h159, od_bS] at eK
        rw [od_bS]
        have e1 := Option.some.inj eK
        rw [← show y.1 = r0 from congrArg Prod.fst e1, ← show z.2 = K0 from congrArg Prod.snd e1]
  rw [st, hr0]
  simp only [od_letS]
  rw [Nat.mod_eq_of_lt (show x + 1 < 4294967296 by omega)]
  refine wok_b (e_77 (cb := cb) (B := 6240) hM r1 c2 b2 (by omega) (by omega) hn hc0 hO (by omega) (by omega) m5 (by omega)) fun r K3 h3 => ?_
  dsimp only
  rcases h3 with ⟨ms, iM, e3, E3, f3⟩ | ⟨e3, hx'⟩
  rotate_left
  · rw [e3, od_bS] at hba
    dsimp only at hba
    rw [if_pos rfl] at hba
    have ho := hba _ _ (rba_f rfl f1 (by rw [r1.2.1.2.1]; omega))
    refine wok_b (sx_123 hx' (by omega) (by omega) hn) fun r K h => ?_
    obtain ⟨g, rfl⟩ : ∃ a, g = a + 1 := ⟨g - 1, by omega⟩
    exact wok_m (sx_122 h.2 (by omega) (okj_p (by omega)) (okj_p h.1) hn) fun r K h => Or.inr ⟨_, _, ho, sx_le h (by omega)⟩
  rw [e3, od_bS] at hgo
  dsimp only at hgo
  rw [if_neg (by decide)] at hgo
  have f3r : rm_fr F (wq_up F1 0 25 (i + 1)) := rm_fr_up f1 (by decide) (by decide)
  have x3 : ∀ d j, ¬ d = 0 → wq_up F1 0 25 (i + 1) d j = F1 d j := fun d j q => wq_up_cell q
  generalize wq_up F1 0 25 (i + 1) = F3 at *
  have e4 := e_la (cb := cb) (x1 := 23) (x2 := w) (x3 := 0) (x4 := 0) E3.1 E3.2.1 E3.2.2.1 m5
  have e5 := e_la (cb := cb) (x1 := 3) (x2 := 0) (x3 := 0) (x4 := 0) e4.1 e4.2.1 e4.2.2.1 m5
  have hd : ((dk_31 F3 23 w 0 0).bind fun y27 => (dk_31 y27.2 3 0 0 0).bind fun y31 => some (1, y31.2)) = some (1, pm_la (pm_la F3 23 w 0 0) 3 0 0 0) := by
    rw [dkS_31 (by rw [E3.1.2.2.1.1]; omega), od_bS]
    dsimp only
    rw [dkS_31 (by rw [e4.1.2.2.1.1]; show W.length + 1 < 4000; omega), od_bS]
  have f6 : rm_fr F (pm_la (pm_la F3 23 w 0 0) 3 0 0 0) := rm_fr_la (rm_fr_la f3r)
  have x6 : ∀ d j, ¬ d = 0 → ¬ (25 ≤ d ∧ d ≤ 28) → pm_la (pm_la F3 23 w 0 0) 3 0 0 0 d j = F1 d j := fun d j a b => by
    rw [pm_la_ne (by omega) (by omega), pm_la_ne (by omega) (by omega), x3 d j a]
  generalize pm_la (pm_la F3 23 w 0 0) 3 0 0 0 = F6 at *
  have g6 := hgo _ (rgo_i hd (by decide) e5.1.1.1 f6)
  have k3a : ∀ d j, (17 ≤ d ∧ d ≤ 23) ∨ (12 ≤ d ∧ d ≤ 15 ∧ j < s ∧ ¬ (d = 14 ∧ j = sc)) ∨ (d = 16 ∧ j < ns) ∨ d = 62 ∨ d = 65 ∨ d = 61 ∨ d = 60 → K3 d j = G d j := fun d j q => (f3 d j (by omega) (by omega) (by omega)).trans (kx d j q)
  have k3b : K3 12 s = 21 ∧ K3 14 s = d0 ∧ K3 14 sc = s + 1 := ⟨(f3 12 s (by omega) (by omega) (by omega)).trans k1, (f3 14 s (by omega) (by omega) (by omega)).trans k2, (f3 14 sc (by omega) (by omega) (by omega)).trans k3⟩
  have x6b : F6 20 w = 21 ∧ F6 21 w = e0 ∧ F6 21 wc = w + 1 := ⟨(x6 20 w (by decide) (by omega)).trans y1a, (x6 21 w (by decide) (by omega)).trans y1b, (x6 21 wc (by decide) (by omega)).trans y1c⟩
  have x6c : ∀ d j, (12 ≤ d ∧ d ≤ 24) → ¬ (20 ≤ d ∧ d ≤ 23 ∧ j = w) → ¬ (d = 21 ∧ j = wc) → F6 d j = F d j := fun d j a b e => (x6 d j (by omega) (by omega)).trans (x1 d j (by omega) b e)
  have hJR : ∀ j ∈ JR, j < w := fun j hj => by
    rcases hbo.2 with ⟨v, L0, _, a, _⟩ | ⟨_, _, a, _⟩
    · exact jc_lt a j hj
    · rw [a] at hj; exact absurd hj (List.not_mem_nil)
  have hJC : ∀ j ∈ JC, j < s := fun j hj => by
    rcases hbo.2 with ⟨v, L0, _, _, a, _⟩ | ⟨_, _, _, a⟩
    · exact jc_lt a j hj
    · rw [a] at hj; exact absurd hj (List.not_mem_nil)
  have hbo6 : bo N L F6 K3 (w + 1) (s + 1) JR JC := bo_y hbo (fun j hj => x6c 21 j (by omega) (by have := hJR j hj; omega) (fun z => mem_ne hj hwc.2.2 (List.mem_singleton.mpr z.2))) (fun j hj => k3a 14 j (by have := hJC j hj; have : ¬ j = sc := fun z => mem_ne hj hsc.2.2.1 (List.mem_singleton.mpr z); omega)) (k3a 65 _ (by omega)) (by omega) (by omega)
  have hEr : ∀ j ∈ Er, j < w := jc_lt hch.1
  have hEc : ∀ j ∈ Ec, j < s := jc_lt hch.2.1
  have ch6 : jc (F6 21) w (w + 1) (w :: Er) ∧ jc (K3 14) s (s + 1) (s :: Ec) ∧ (∀ j ∈ w :: Er, ¬ j ∈ JR) ∧ ∀ j ∈ s :: Ec, ¬ j ∈ JC := by
    refine ⟨⟨rfl, by omega, ?_⟩, ⟨rfl, by omega, ?_⟩, fun j hj hz => ?_, fun j hj hz => ?_⟩
    · rw [x6b.2.1]
      exact jc_ext hch.1 (fun j hj => x6c 21 j (by omega) (by have := hEr j hj; omega) (fun z => mem_ne hj hwc.2.1 (List.mem_singleton.mpr z.2)))
    · rw [k3b.2.1]
      exact jc_ext hch.2.1 (fun j hj => k3a 14 j (by have := hEc j hj; have : ¬ j = sc := fun z => mem_ne hj hsc.2.1 (List.mem_singleton.mpr z); omega))
    · exact (List.mem_cons.mp hj).elim (fun y => by have := hJR j hz; omega) (fun y => hch.2.2.1 j y hz)
    · exact (List.mem_cons.mp hj).elim (fun y => by have := hJC j hz; omega) (fun y => hch.2.2.2 j y hz)
  refine wok_m (hCl (i + 1) (w + 1) (s + 1) nw ns np w s (x + 1) g ls ms F6 K3 (w :: Er) (s :: Ec) JR JC L (by omega) (by omega) hg e5.1 e5.2.1 e5.2.2.1 ⟨by omega, by omega, by omega, by omega, m5, m6, by omega, m8, m9, m10, m11, m12⟩ hL1 hbo6 hib ch6 (fun l hl => (k3a 62 l (by omega)).trans (h62B l hl))) fun r K h => ?_
  rcases h with ⟨i', w', s', nw', ns', np', ls', cs', H, L', Jr, Jc, g', ⟨⟨z1, z2, z3⟩, ⟨y1, y2, y3, y4, y5, y6, y7⟩, ⟨j1, j2⟩, ⟨s1, s2, s3⟩, bo', lt'⟩, ⟨ka', kb'⟩, sg', v1, v2, v3, v4⟩ | ⟨e, p, ho, hx'⟩
  rotate_left
  · exact Or.inr ⟨e, p, rm_to_out g6.1 g6.2 ho, hx'⟩
  have nwc : ¬ wc ∈ w :: Er := fun z => (List.mem_cons.mp z).elim (fun y => by omega) hwc.2.1
  have nsc : ¬ sc ∈ s :: Ec := fun z => (List.mem_cons.mp z).elim (fun y => by omega) hsc.2.1
  have S1 : sgu ls' cs' H K (B0 62 (N - 1)) w w' s s' nw nw' ns ns' np np' c Jr Jc cb (B0 62 (N - 1), w, s, c) := fun H' J nm X wb sb a1 a2 a3 a4 a5 a6 => by
    have t20 : H' 20 w = 21 := by
      rw [a1.1 20 w (by decide) (by decide) (by omega) (by omega), jl_ne (by omega), ka'.1 20 w (by decide) (by decide) (by omega), jl_ne (by omega)]
      exact x6b.1
    have t21 : H' 21 w = w' := by
      rw [a1.1 21 w (by decide) (by decide) (by omega) (by omega), jl_ne (fun z => by have := j1 w z.2; omega), ka'.1 21 w (by decide) (by decide) (by omega), jl_at (List.mem_cons_self ..)]
    have t12 : J 12 s = 21 := by
      rw [a2.1 12 s (by decide) (by decide) (by omega) (by omega), jl_ne (by omega), kb'.1 12 s (by decide) (by decide) (by omega), jl_ne (by omega)]
      exact k3b.1
    have t14 : J 14 s = s' := by
      rw [a2.1 14 s (by decide) (by decide) (by omega) (by omega), jl_ne (fun z => by have := j2 s z.2; omega), kb'.1 14 s (by decide) (by decide) (by omega), jl_at (List.mem_cons_self ..)]
    refine sg_s (l := [(B0 62 (N - 1), w', s', c)]) (Or.inl ⟨23, t20, t12, Or.inl ?_, ?_⟩) (fun v hv => ?_)
    · show w < H' 21 w
      rw [t21]
      omega
    · show _ = [(B0 62 (N - 1), H' 21 w, J 14 s, c)]
      rw [t21, t14]
    · rw [List.mem_singleton.mp hv]
      exact a6
  refine Or.inl ⟨i', w', s', nw', ns', np', ls', cs', H, L', Jr, Jc, w + 1, s + 1, ⟨rm_trans g6.1 g'.1, rm_fr_trans g6.2 g'.2⟩, ⟨⟨z1, z2, z3⟩, ⟨by omega, by omega, y3, y4, y5, y6, by omega⟩, ⟨fun j hj => by have := j1 j hj; omega, fun j hj => by have := j2 j hj; omega⟩, ⟨s1, st_pre_trans E3.2.2.2.2.1.2.1 s2, ⟨fun l hl => (s3.1 l hl).trans (k3a 62 l (by omega)), fun l hl => (s3.2.1 l hl).trans (k3a 65 l (by omega)), fun l hl e6 h6 => (s3.2.2 l hl e6 h6).trans (k3a e6 l (by omega))⟩⟩, bo', lt'⟩, ⟨?_, ?_, by omega⟩, ⟨ka_wc ka' x6c x6b.2.2, kb_wc kb' (fun d j q => k3a d j (by omega)) k3b.2.2⟩, S1, fun H' J nm X wb sb a1 a2 a3 a4 a5 a6 => sg' H' J nm X wb sb (ag_2 a1 (by omega) (Nat.le_refl _) (Nat.le_refl _)) (bg_2 a2 (by omega) (Nat.le_refl _) (Nat.le_refl _)) a3 a4 a5 a6, by omega, by omega, by omega, by omega⟩
  · rw [ka'.1 21 wc (by decide) (by decide) (by omega), jl_ne (fun z => nwc z.2)]
    exact x6b.2.2
  · show K 14 sc = s + 1
    rw [kb'.1 14 sc (by decide) (by decide) (by omega), jl_ne (fun z => nsc z.2)]
    exact k3b.2.2
end
