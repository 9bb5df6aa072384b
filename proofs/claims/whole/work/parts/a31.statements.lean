/-! ===== a31: statements and blocks: what is to be shown (wip/whole2/lawa31.py) ===== -/
/-- the chains of breaks of the innermost loop of this function -/
def bo (N : Nat) (L : List (Nat × Nat)) (F G : wq_F) (w s : Nat) (Jr Jc : List Nat) : Prop := (∀ e ∈ L, e.2 < N) ∧ ((∃ v L0, L = (v, N - 1) :: L0 ∧ jc (F 21) v w Jr ∧ jc (G 14) (G 65 (N - 1)) s Jc ∧ ¬ G 65 (N - 1) = 4294967294) ∨ ((∀ e ∈ L, e.2 < N - 1) ∧ G 65 (N - 1) = 4294967294 ∧ Jr = [] ∧ Jc = []))
def gk (N : Nat) (off : Nat → Nat) (B K : wq_F) : Prop := (∀ l, l < N → K 62 l = B 62 l) ∧ (∀ l, l + 1 < N → K 65 l = B 65 l) ∧ ∀ i, i < off N → ∀ e, e = 60 ∨ e = 61 → K e i = B e i
/-- more names in the innermost level -/
def ve (N : Nat) (off voff ph off' voff' ph' : Nat → Nat) : Prop := (∀ l, l < N → off' l = off l ∧ voff' l = voff l) ∧ off N ≤ off' N ∧ voff N ≤ voff' N ∧ (∀ k, k < voff N → ph' k = ph k) ∧ ∀ k, voff N ≤ k → k < voff' N → off N ≤ ph' k
def lt2 (N : Nat) (L L' : List (Nat × Nat)) : Prop := L'.tail = L.tail ∧ L'.map Prod.snd = L.map Prod.snd ∧ ((∀ e ∈ L, e.2 < N - 1) → L' = L)
/-- the locals in a frame one above the other -/
def fs (c : List Nat) : Prop := ∀ a x b, c = a ++ x :: b → 5 ≤ x → ∀ e ∈ b, e < x
/-- locals alone were put on the frame -/
def lo (N : Nat) (voff : Nat → Nat) (c : List Nat) (voff' ph' : Nat → Nat) (c' : List Nat) (K : wq_F) : Prop := ∃ a, c' = a ++ c ∧ (∀ e ∈ a, 5 ≤ e) ∧ a.length + voff N = voff' N ∧ (∀ k, voff N ≤ k → k < voff' N → K 61 (ph' k) = hg c + (k - voff N)) ∧ (fs c → fs c')
/-- within a loop locals alone stand above its frame -/
def ib (N : Nat) (L : List (Nat × Nat)) (cb c : List Nat) : Prop := (∃ v L0, L = (v, N - 1) :: L0) → ∃ a, c = a ++ cb ∧ ∀ e ∈ a, 5 ≤ e
def rt0 (i w s nw ns i' w' s' nw' ns' : Nat) : Prop := i ≤ i' ∧ w' + 6 * i ≤ w + 6 * i' ∧ s' + 4 * i ≤ s + 4 * i' ∧ nw' + i ≤ nw + i' ∧ ns' + i ≤ ns + i'
/-- from a state to a later one, names and breaks may have come -/
def ge (T : Nat → Nat) (n M : Nat) (G0 : wq_F) (c0 : List (List Nat)) (O N : Nat) (cx : Nat → List Nat) (cb : List Nat) (A B : wq_F) (i : Nat) (ls cs : List (List Nat)) (w s nw ns np : Nat) (c : List Nat) (off voff ph : Nat → Nat) (L : List (Nat × Nat)) (Jr0 Jc0 : List Nat) (t : Nat) (W : List (Nat × Nat × Nat × Nat)) (P Q : List (Nat × Nat × Nat)) (H K : wq_F) (i' : Nat) (ls' cs' : List (List Nat)) (w' s' nw' ns' np' : Nat) (c' : List Nat) (off' voff' ph' : Nat → Nat) (L' : List (Nat × Nat)) (Jr Jc : List Nat) : Prop :=
  ry T n M i' ls' t w' nw' np' W L' P H ∧ cy T n G0 c0 O i' cs' s' ns' np' N Q K ∧ bz N off' voff' ph' cx c' np' H ls' K cs' ∧ pj ls' cs' (lvl N B) (B 62 (N - 1)) cb A B w s nw ns np c H K w' s' nw' ns' np' c' Jr Jc ∧ (st_sf ls ls' ∧ st_pre cs cs' ∧ gk N off B K) ∧ (i ≤ i' ∧ np' ≤ 50) ∧ ve N off voff ph off' voff' ph' ∧ bo N L' H K w' s' (Jr ++ Jr0) (Jc ++ Jc0) ∧ lt2 N L L'
theorem ve_refl {N : Nat} {off voff ph : Nat → Nat} : ve N off voff ph off voff ph := ⟨fun _ _ => ⟨rfl, rfl⟩, Nat.le_refl _, Nat.le_refl _, fun _ _ => rfl, fun k a b => absurd b (by omega)⟩
theorem ve_t {N : Nat} {off voff ph off1 voff1 ph1 off2 voff2 ph2 : Nat → Nat} (h : ve N off voff ph off1 voff1 ph1) (g : ve N off1 voff1 ph1 off2 voff2 ph2) : ve N off voff ph off2 voff2 ph2 := by
  obtain ⟨h1, h2, h3, h4, h5⟩ := h
  obtain ⟨g1, g2, g3, g4, g5⟩ := g
  refine ⟨fun l hl => ⟨(g1 l hl).1.trans (h1 l hl).1, (g1 l hl).2.trans (h1 l hl).2⟩, by omega, by omega, fun k hk => (g4 k (by omega)).trans (h4 k hk), fun k a b => ?_⟩
  by_cases q : k < voff1 N
  · rw [g4 k q]
    exact h5 k a q
  · have := g5 k (by omega) b
    omega
theorem gk_t {N : Nat} {off off1 : Nat → Nat} {A B C : wq_F} (h : gk N off A B) (g : gk N off1 B C) (ho : off N ≤ off1 N) : gk N off A C := ⟨fun l hl => (g.1 l hl).trans (h.1 l hl), fun l hl => (g.2.1 l hl).trans (h.2.1 l hl), fun i hi e he => (g.2.2 i (by omega) e he).trans (h.2.2 i hi e he)⟩
theorem gk_refl {N : Nat} {off : Nat → Nat} {A : wq_F} : gk N off A A := ⟨fun _ _ => rfl, fun _ _ => rfl, fun _ _ _ _ => rfl⟩
theorem gk_lk {N : Nat} {off : Nat → Nat} {A B : wq_F} (h : lk N off A B) : gk N off A B := ⟨fun l hl => (h.1 l hl).1, fun l hl => (h.1 l (by omega)).2, h.2⟩
theorem lt2_refl {N : Nat} {L : List (Nat × Nat)} : lt2 N L L := ⟨rfl, rfl, fun _ => rfl⟩
theorem lt2_len {N : Nat} {L L' : List (Nat × Nat)} (h : lt2 N L L') : L'.length = L.length := by
  have e := congrArg List.length h.2.1
  rw [List.length_map, List.length_map] at e
  exact e
theorem lt2_t {N : Nat} {A B C : List (Nat × Nat)} (h : lt2 N A B) (g : lt2 N B C) : lt2 N A C := ⟨g.1.trans h.1, g.2.1.trans h.2.1, fun z => by
  have e := h.2.2 z
  rw [e] at g
  exact g.2.2 z⟩
/-- nothing of the chains changed -/
theorem bo_x {N w s w' s' : Nat} {L : List (Nat × Nat)} {A B H K : wq_F} {Jr Jc : List Nat} (h : bo N L A B w s Jr Jc) (hF : ∀ j, j < w → H 21 j = A 21 j) (hG : ∀ j, j < s → K 14 j = B 14 j) (h65 : K 65 (N - 1) = B 65 (N - 1)) (hw : w ≤ w') (hs : s ≤ s') : bo N L H K w' s' Jr Jc := by
  obtain ⟨h1, h2⟩ := h
  refine ⟨h1, ?_⟩
  rw [h65]
  rcases h2 with ⟨v, L0, a, b, d, e⟩ | h2
  · exact Or.inl ⟨v, L0, a, jc_le (jc_ext b (fun j hj => hF j (jc_lt b j hj))) hw, jc_le (jc_ext d (fun j hj => hG j (jc_lt d j hj))) hs, e⟩
  · exact Or.inr h2
section
variable {nn : Nat} {T : Nat → Nat} {n M O : Nat} {G0 : wq_F} {c0 : List (List Nat)} {i t w s nw ns np N : Nat} {off voff ph : Nat → Nat} {cx : Nat → List Nat} {c cb : List Nat} {W : List (Nat × Nat × Nat × Nat)} {L : List (Nat × Nat)} {P Q : List (Nat × Nat × Nat)} {ls cs : List (List Nat)} {F G : wq_F}

variable {A B H K H' K' : wq_F} {i' i'' w' s' nw' ns' np' w'' s'' nw'' ns'' np'' t' : Nat} {ls' cs' ls'' cs'' : List (List Nat)} {c' c'' : List Nat} {W' : List (Nat × Nat × Nat × Nat)} {L' L'' : List (Nat × Nat)} {P' Q' : List (Nat × Nat × Nat)} {off' voff' ph' off'' voff'' ph'' : Nat → Nat} {Jr0 Jc0 Jr Jc Jr' Jc' : List Nat}
theorem ge_t (h : ge T n M G0 c0 O N cx cb A B i ls cs w s nw ns np c off voff ph L Jr0 Jc0 t W P Q H K i' ls' cs' w' s' nw' ns' np' c' off' voff' ph' L' Jr Jc) (g : ge T n M G0 c0 O N cx cb H K i' ls' cs' w' s' nw' ns' np' c' off' voff' ph' L' (Jr ++ Jr0) (Jc ++ Jc0) t' W' P' Q' H' K' i'' ls'' cs'' w'' s'' nw'' ns'' np'' c'' off'' voff'' ph'' L'' Jr' Jc') (h62 : ∀ l, l < N → B 62 l < np) : ge T n M G0 c0 O N cx cb A B i ls cs w s nw ns np c off voff ph L Jr0 Jc0 t' W' P' Q' H' K' i'' ls'' cs'' w'' s'' nw'' ns'' np'' c'' off'' voff'' ph'' L'' (Jr' ++ Jr) (Jc' ++ Jc) := by
  obtain ⟨a1, a2, a3, a4, ⟨a5, a6, a7⟩, ⟨a8, a9⟩, a10, a11, a12⟩ := h
  obtain ⟨b1, b2, b3, b4, ⟨b5, b6, b7⟩, ⟨b8, b9⟩, b10, b11, b12⟩ := g
  have hN := a3.1.1.1
  rw [lvl_eq (fun l hl => a7.1 l hl), a7.1 (N - 1) (by omega)] at b4
  rw [← List.append_assoc, ← List.append_assoc] at b11
  exact ⟨b1, b2, b3, pj_t a4 b4 b5.1 b6 (fun g hg ⟨l, l1, l2⟩ => by have := h62 l l1; omega) (h62 (N - 1) (by omega)), ⟨st_sf_trans a5 b5, st_pre_trans a6 b6, gk_t a7 b7 a10.2.1⟩, ⟨Nat.le_trans a8 b8, b9⟩, ve_t a10 b10, b11, lt2_t a12 b12⟩
/-- a stretch without names and breaks -/
theorem ge_eg (h : eg T n M G0 c0 O N off voff ph cx cb A B i ls cs w s nw ns np c t W L P Q H K i' ls' cs' w' s' nw' ns' np' c') (hb : bo N L A B w s Jr0 Jc0) : ge T n M G0 c0 O N cx cb A B i ls cs w s nw ns np c off voff ph L Jr0 Jc0 t W P Q H K i' ls' cs' w' s' nw' ns' np' c' off voff ph L [] [] := by
  obtain ⟨a1, a2, a3, a4, ⟨a5, a6, a7⟩, a8, a9⟩ := h
  have hN := a3.1.1.1
  exact ⟨a1, a2, a3, a4, ⟨a5, a6, gk_lk a7⟩, ⟨a8, a9⟩, ve_refl, bo_x hb (fun j hj => a4.2.1.1 21 j (by decide) (by decide) hj) (fun j hj => a4.2.2.1.1 14 j (by decide) (by decide) hj) (a7.1 (N - 1) (by omega)).2 a4.1.1 a4.1.2.1, lt2_refl⟩
/-- ... behind a stretch with them -/
theorem ge_x (h : ge T n M G0 c0 O N cx cb A B i ls cs w s nw ns np c off voff ph L Jr0 Jc0 t W P Q H K i' ls' cs' w' s' nw' ns' np' c' off' voff' ph' L' Jr Jc) (g : eg T n M G0 c0 O N off' voff' ph' cx cb H K i' ls' cs' w' s' nw' ns' np' c' t' W' L' P' Q' H' K' i'' ls'' cs'' w'' s'' nw'' ns'' np'' c'') (h62 : ∀ l, l < N → B 62 l < np) : ge T n M G0 c0 O N cx cb A B i ls cs w s nw ns np c off voff ph L Jr0 Jc0 t' W' P' Q' H' K' i'' ls'' cs'' w'' s'' nw'' ns'' np'' c'' off' voff' ph' L' Jr Jc := ge_t h (ge_eg g h.2.2.2.2.2.2.2.1) h62
theorem lo_refl (h : c' = c) : lo N voff c voff ph c' K := ⟨[], h, fun e he => absurd he (List.not_mem_nil), Nat.zero_add _, fun k a b => absurd b (by omega), fun z => by rw [h]; exact z⟩
theorem hg_5 : ∀ {a : List Nat}, (∀ e ∈ a, 5 ≤ e) → hg a = a.length
  | [], _ => rfl
  | e :: a, h => by
    have h1 := h e (List.mem_cons_self ..)
    show (if e = 1 then 0 else 1) + hg a = a.length + 1
    rw [if_neg (by omega), hg_5 (fun x hx => h x (List.mem_cons_of_mem _ hx))]
    omega
theorem lo_t (h : lo N voff c voff' ph' c' K) (g : lo N voff' c' voff'' ph'' c'' K') (hv : ve N off' voff' ph' off'' voff'' ph'') (hk : ∀ k, k < voff' N → K' 61 (ph' k) = K 61 (ph' k)) : lo N voff c voff'' ph'' c'' K' := by
  obtain ⟨a, a1, a2, a3, a4, a5⟩ := h
  obtain ⟨b, b1, b2, b3, b4, b5⟩ := g
  refine ⟨b ++ a, by rw [b1, a1, List.append_assoc], fun e he => (List.mem_append.mp he).elim (b2 e) (a2 e), by rw [List.length_append]; omega, fun k x y => ?_, fun z => b5 (a5 z)⟩
  by_cases q : k < voff' N
  · rw [hv.2.2.2.1 k q, hk k q]
    exact a4 k x q
  · rw [b4 k (by omega) y, a1, hg_app, hg_5 a2]
    omega
theorem ib_t (h : ib N L cb c) (g : lo N voff c voff' ph' c' K) (hl : lt2 N L L') : ib N L' cb c' := by
  rintro ⟨v', L1, e1⟩
  have hin : ∃ v L0, L = (v, N - 1) :: L0 := by
    have e2 := hl.2.1
    rw [e1] at e2
    cases L with
    | nil => cases e2
    | cons z L0 =>
      obtain ⟨z1, z2⟩ := z
      have e3 : (N - 1) :: L1.map Prod.snd = z2 :: L0.map Prod.snd := e2
      injection e3 with e4 e5
      exact ⟨z1, L0, by rw [e4]⟩
  obtain ⟨x, x1, x2⟩ := h hin
  obtain ⟨a, a1, a2, _⟩ := g
  exact ⟨a ++ x, by rw [a1, x1, List.append_assoc], fun e he => (List.mem_append.mp he).elim (a2 e) (x2 e)⟩
/-- the locals from a on known: the class -/
def rv_up (G : wq_F) (a m sl : Nat) : wq_F := fun d j => if d = 61 ∧ a ≤ j ∧ j < a + m then sl + (j - a) else G d j
theorem rv_ne {a m sl d j : Nat} (h : ¬ (d = 61 ∧ a ≤ j ∧ j < a + m)) : rv_up G a m sl d j = G d j := if_neg h
theorem rv_at {a m sl j : Nat} (h : j < m) : rv_up G a m sl 61 (a + j) = sl + j := by
  unfold rv_up
  rw [if_pos (by omega), Nat.add_sub_cancel_left]
theorem dkL_167 {a m sl : Nat} (h3 : G 59 3 = a + m) (ha : a + m ≤ 1200) (hs : sl + m < 2147483648) : ∀ g j, j ≤ m → m - j < g → dk_167_2 nn g (rv_up G a j sl) a sl (a + j) = some (0, rv_up G a m sl)
  | 0, j, _, h => absurd h (Nat.not_lt_zero _)
  | g + 1, j, h1, h2 => by
    show dk_167_2b nn (dk_167_2 nn g) (rv_up G a j sl) a sl (a + j) = _
    unfold dk_167_2b
    rw [rv_ne (show ¬ ((59 : Nat) = 61 ∧ a ≤ 3 ∧ 3 < a + j) by omega), h3]
    by_cases q : j < m
    · rw [if_pos ((wd_slt (by omega) (by omega)).mpr (by omega)), od_letS, od_g1 (by omega), od_upS, od_letS, Nat.mod_eq_of_lt (show a + j + 1 < 4294967296 by omega), show ((sl + (a + j)) % 4294967296 + (4294967296 - a)) % 4294967296 = sl + j by omega]
      have e : wq_up (rv_up G a j sl) 61 (a + j) (sl + j) = rv_up G a (j + 1) sl := by
        funext d x
        by_cases z : d = 61 ∧ x = a + j
        · rw [z.1, z.2, wq_up_same]
          exact (rv_at (Nat.lt_succ_self j)).symm
        · rw [wq_up_ne z]
          unfold rv_up
          by_cases y : d = 61 ∧ a ≤ x ∧ x < a + j
          · rw [if_pos y, if_pos (by omega)]
          · rw [if_neg y, if_neg (by omega)]
      rw [e]
      exact dkL_167 h3 ha hs g (j + 1) (by omega) (by omega)
    · rw [if_neg (fun z => by have := (wd_slt (by omega) (by omega)).mp z; omega), show j = m by omega]
theorem dkS_167 {a m sl : Nat} (h3 : G 59 3 = a + m) (ha : a + m ≤ 1200) (hs : sl + m < 2147483648) (hn : 10000 < nn) : dk_167 nn G a sl = some (0, rv_up G a m sl) := by
  have e : rv_up G a 0 sl = G := funext fun d => funext fun j => rv_ne (by omega)
  have h := dkL_167 (nn := nn) h3 ha hs nn 0 (Nat.zero_le _) (by omega)
  rw [e] at h
  exact h
end
/-- a statement at depth D -/
def St_ok (nn : Nat) (T : Nat → Nat) (n M : Nat) (G0 : wq_F) (c0 : List (List Nat)) (O D : Nat) : Prop := ∀ (k i t w s nw ns np N : Nat) (off voff ph : Nat → Nat) (cx : Nat → List Nat) (c cb : List Nat) (W : List (Nat × Nat × Nat × Nat)) (L : List (Nat × Nat)) (P Q : List (Nat × Nat × Nat)) (ls cs : List (List Nat)) (F G : wq_F) (Jr0 Jc0 : List Nat),
  20 * (22 - D) + 18 ≤ k → t = D → ¬ tb_st (tk_ty T n (tk_pos T n i)) = 0 → ry T n M i ls t w nw np W L P F → cy T n G0 c0 O i cs s ns np N Q G → bz N off voff ph cx c np F ls G cs → bnd i (w + 2) (s + 1) nw ns np t (hg c) W L P Q N → W.length ≤ 20 * t ∧ N ≤ t ∧ L.length + 1 ≤ t ∧ P.length + 20 ≤ 20 * t ∧ Q.length + 20 ≤ 20 * t → bo N L F G w s Jr0 Jc0 → ib N L cb c → fs c →
  wok (dk_R nn k 116 [D] G) (fun _ K => (∃ i' w' s' nw' ns' np' ls' cs' H c' off' voff' ph' L' Jr Jc, rgo nn F (dk_226 nn F) H ∧ ge T n M G0 c0 O N cx cb F G i ls cs w s nw ns np c off voff ph L Jr0 Jc0 t W P Q H K i' ls' cs' w' s' nw' ns' np' c' off' voff' ph' L' Jr Jc ∧ lo N voff c voff' ph' c' K ∧ rts i w s nw ns i' w' s' nw' ns' ∧ hg c' + 2 * i ≤ hg c + 2 * i' ∧ (w < w' → H 20 w = 0)) ∨ ∃ e p, rba nn F (dk_226 nn F) e p ∧ sxy T n G0 c0 O e p N (zz D + 100) K)
/-- a block at depth D -/
def Bk_ok (nn : Nat) (T : Nat → Nat) (n M : Nat) (G0 : wq_F) (c0 : List (List Nat)) (O D : Nat) : Prop := ∀ (k i t w s nw ns np N : Nat) (off voff ph : Nat → Nat) (cx : Nat → List Nat) (c cb : List Nat) (W : List (Nat × Nat × Nat × Nat)) (L : List (Nat × Nat)) (P Q : List (Nat × Nat × Nat)) (ls cs : List (List Nat)) (F G : wq_F) (Jr0 Jc0 : List Nat),
  20 * (22 - D) + 24 ≤ k → t + 1 = D → ry T n M i ls t w nw np ((0, 0, 0, 0) :: W) L P F → cy T n G0 c0 O i cs s ns np N Q G → bz N off voff ph cx c np F ls G cs → bnd i (w + 2) (s + 1) nw ns np t (hg c) W L P Q N → W.length ≤ 20 * t + 10 → bo N L F G w s Jr0 Jc0 → ib N L cb c → fs c →
  wok (dk_R nn k 80 [D] G) (fun _ K => (∃ i' w' s' nw' ns' np' ls' cs' H c' off' voff' ph' L' Jr Jc, (rm_to nn F H ∧ rm_fr F H) ∧ ge T n M G0 c0 O N cx cb F G i ls cs w s nw ns np c off voff ph L Jr0 Jc0 t W P Q H K i' ls' cs' w' s' nw' ns' np' c' off' voff' ph' L' Jr Jc ∧ lo N voff c voff' ph' c' K ∧ rt0 i w s nw ns i' w' s' nw' ns' ∧ hg c' + 2 * i ≤ hg c + 2 * i' ∧ (w < w' → H 20 w = 0)) ∨ ∃ e p, rm_out nn e p F ∧ sxy T n G0 c0 O e p N (zz D + 100) K)
