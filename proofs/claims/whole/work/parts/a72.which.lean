/-! ===== a72: which statement it is (wip/whole2/lawa72.py) ===== -/
/-- the class's cases -/
def dq (R : dk_Rt) (n : Nat) (a0 y11 : Nat) (F : wq_F) : Option (Nat × wq_F) :=
  if y11 = 11 then
    (dk_118 n F).bind fun y16 =>
    some (0, y16.2)
  else if y11 = 12 then
    (dk_77 n F).bind fun y22 =>
    (R 115 [(a0 + 1) % 4294967296] y22.2).bind fun y26 =>
    (dk_110 n y26.2 15).bind fun y30 =>
    some (0, y30.2)
  else if y11 = 13 then
    (R 140 [a0] F).bind fun y36 =>
    some (0, y36.2)
  else if y11 = 14 then
    (R 140 [a0] F).bind fun y42 =>
    some (0, y42.2)
  else if y11 = 15 then
    (R 140 [a0] F).bind fun y48 =>
    some (0, y48.2)
  else if y11 = 16 then
    (R 140 [a0] F).bind fun y54 =>
    some (0, y54.2)
  else if y11 = 17 then
    (R 126 [a0] F).bind fun y60 =>
    some (0, y60.2)
  else if y11 = 18 then
    (R 131 [a0] F).bind fun y66 =>
    some (0, y66.2)
  else if y11 = 19 then
    (R 122 [a0] F).bind fun y72 =>
    some (0, y72.2)
  else if y11 = 20 then
    (R 140 [a0] F).bind fun y78 =>
    some (0, y78.2)
  else if y11 = 21 then
    (R 130 [a0] F).bind fun y84 =>
    some (0, y84.2)
  else if y11 = 22 then
    (R 140 [a0] F).bind fun y90 =>
    some (0, y90.2)
  else if y11 = 23 then
    (R 140 [a0] F).bind fun y96 =>
    some (0, y96.2)
  else if y11 = 24 then
    (R 140 [a0] F).bind fun y102 =>
    some (0, y102.2)
  else if y11 = 25 then
    (R 121 [a0] F).bind fun y108 =>
    some (0, y108.2)
  else if y11 = 26 then
    (R 140 [a0] F).bind fun y114 =>
    some (0, y114.2)
  else if y11 = 27 then
    (R 140 [a0] F).bind fun y120 =>
    some (0, y120.2)
  else if y11 = 28 then
    (R 140 [a0] F).bind fun y126 =>
    some (0, y126.2)
  else if y11 = 29 then
    (R 140 [a0] F).bind fun y132 =>
    some (0, y132.2)
  else if y11 = 30 then
    (R 119 [a0] F).bind fun y138 =>
    some (0, y138.2)
  else 
  (R 140 [a0] F).bind fun y143 =>
  some (0, y143.2)
/-- the reference's cases -/
def dm (n y29 l p : Nat) (F : wq_F) : Option (Nat × wq_F) :=
  if y29 = 3 then
    (dk_31 F 30 0 0 0).bind fun y34 =>
    (dk_224 y34.2).bind fun y38 =>
    some (1, y38.2)
  else if y29 = 4 then
    (dk_229 F p).bind fun y44 =>
    some (y44.1, y44.2)
  else if y29 = 5 then
    (dk_229 F p).bind fun y50 =>
    some (y50.1, y50.2)
  else if y29 = 6 then
    (dk_229 F p).bind fun y56 =>
    some (y56.1, y56.2)
  else if y29 = 7 then
    (dk_229 F p).bind fun y62 =>
    some (y62.1, y62.2)
  else if y29 = 8 then
    (dk_233 n F l).bind fun y68 =>
    some (y68.1, y68.2)
  else if y29 = 9 then
    (dk_232 n F).bind fun y74 =>
    some (y74.1, y74.2)
  else if y29 = 10 then
    (dk_31 F 23 4294967295 0 0).bind fun y80 =>
    (dk_31 y80.2 3 0 0 0).bind fun y84 =>
    some (1, y84.2)
  else if y29 = 11 then
    (dk_229 F p).bind fun y90 =>
    some (y90.1, y90.2)
  else if y29 = 12 then
    (dk_230 n F).bind fun y96 =>
    some (y96.1, y96.2)
  else if y29 = 13 then
    (dk_229 F p).bind fun y102 =>
    some (y102.1, y102.2)
  else if y29 = 14 then
    (dk_229 F p).bind fun y108 =>
    some (y108.1, y108.2)
  else if y29 = 15 then
    (dk_229 F p).bind fun y114 =>
    some (y114.1, y114.2)
  else if y29 = 16 then
    (dk_227 F).bind fun y120 =>
    (dk_218 y120.2).bind fun y124 =>
    od_g (y124.1 < 51) <|
    (dk_31 y124.2 28 (y120.2 0 41) (y120.2 0 50) (y124.2 14 y124.1)).bind fun y129 =>
    (dk_31 y129.2 0 0 0 0).bind fun y133 =>
    some (1, y133.2)
  else if y29 = 17 then
    (dk_229 F p).bind fun y139 =>
    some (y139.1, y139.2)
  else if y29 = 18 then
    (dk_229 F p).bind fun y145 =>
    some (y145.1, y145.2)
  else if y29 = 19 then
    (dk_229 F p).bind fun y151 =>
    some (y151.1, y151.2)
  else if y29 = 20 then
    (dk_229 F p).bind fun y157 =>
    some (y157.1, y157.2)
  else if y29 = 21 then
    (dk_30 F 0 0 0 0).bind fun y163 =>
    (dk_31 y163.2 26 y163.1 0 0).bind fun y167 =>
    (dk_31 y167.2 3 0 0 0).bind fun y171 =>
    some (1, y171.2)
  else 
  (dk_229 F p).bind fun y176 =>
  some (y176.1, y176.2)
theorem dq_2 {R : dk_Rt} {n a0 : Nat} {F : wq_F} : dq R n a0 11 F = (dk_118 n F).bind fun y16 => some (0, y16.2) := by
  unfold dq
  rw [if_pos rfl]
theorem dm_2 {n l p : Nat} {F : wq_F} : dm n 2 l p F = dk_229 F p := by
  unfold dm
  rw [if_neg (by decide), if_neg (by decide), if_neg (by decide), if_neg (by decide), if_neg (by decide), if_neg (by decide), if_neg (by decide), if_neg (by decide), if_neg (by decide), if_neg (by decide), if_neg (by decide), if_neg (by decide), if_neg (by decide), if_neg (by decide), if_neg (by decide), if_neg (by decide), if_neg (by decide), if_neg (by decide), if_neg (by decide), od_bI]
theorem dq_3 {R : dk_Rt} {n a0 : Nat} {F : wq_F} : dq R n a0 12 F = (dk_77 n F).bind fun y22 => (R 115 [(a0 + 1) % 4294967296] y22.2).bind fun y26 => (dk_110 n y26.2 15).bind fun y30 => some (0, y30.2) := by
  unfold dq
  rw [if_neg (by decide), if_pos rfl]
theorem dm_3 {n l p : Nat} {F : wq_F} : dm n 3 l p F = (dk_31 F 30 0 0 0).bind fun y34 => (dk_224 y34.2).bind fun y38 => some (1, y38.2) := by
  unfold dm
  rw [if_pos rfl]
theorem dq_8 {R : dk_Rt} {n a0 : Nat} {F : wq_F} : dq R n a0 17 F = (R 126 [a0] F).bind fun y60 => some (0, y60.2) := by
  unfold dq
  rw [if_neg (by decide), if_neg (by decide), if_neg (by decide), if_neg (by decide), if_neg (by decide), if_neg (by decide), if_pos rfl]
theorem dm_8 {n l p : Nat} {F : wq_F} : dm n 8 l p F = (dk_233 n F l).bind fun y68 => some (y68.1, y68.2) := by
  unfold dm
  rw [if_neg (by decide), if_neg (by decide), if_neg (by decide), if_neg (by decide), if_neg (by decide), if_pos rfl]
theorem dq_9 {R : dk_Rt} {n a0 : Nat} {F : wq_F} : dq R n a0 18 F = (R 131 [a0] F).bind fun y66 => some (0, y66.2) := by
  unfold dq
  rw [if_neg (by decide), if_neg (by decide), if_neg (by decide), if_neg (by decide), if_neg (by decide), if_neg (by decide), if_neg (by decide), if_pos rfl]
theorem dm_9 {n l p : Nat} {F : wq_F} : dm n 9 l p F = (dk_232 n F).bind fun y74 => some (y74.1, y74.2) := by
  unfold dm
  rw [if_neg (by decide), if_neg (by decide), if_neg (by decide), if_neg (by decide), if_neg (by decide), if_neg (by decide), if_pos rfl]
theorem dq_10 {R : dk_Rt} {n a0 : Nat} {F : wq_F} : dq R n a0 19 F = (R 122 [a0] F).bind fun y72 => some (0, y72.2) := by
  unfold dq
  rw [if_neg (by decide), if_neg (by decide), if_neg (by decide), if_neg (by decide), if_neg (by decide), if_neg (by decide), if_neg (by decide), if_neg (by decide), if_pos rfl]
theorem dm_10 {n l p : Nat} {F : wq_F} : dm n 10 l p F = (dk_31 F 23 4294967295 0 0).bind fun y80 => (dk_31 y80.2 3 0 0 0).bind fun y84 => some (1, y84.2) := by
  unfold dm
  rw [if_neg (by decide), if_neg (by decide), if_neg (by decide), if_neg (by decide), if_neg (by decide), if_neg (by decide), if_neg (by decide), if_pos rfl]
theorem dq_12 {R : dk_Rt} {n a0 : Nat} {F : wq_F} : dq R n a0 21 F = (R 130 [a0] F).bind fun y84 => some (0, y84.2) := by
  unfold dq
  rw [if_neg (by decide), if_neg (by decide), if_neg (by decide), if_neg (by decide), if_neg (by decide), if_neg (by decide), if_neg (by decide), if_neg (by decide), if_neg (by decide), if_neg (by decide), if_pos rfl]
theorem dm_12 {n l p : Nat} {F : wq_F} : dm n 12 l p F = (dk_230 n F).bind fun y96 => some (y96.1, y96.2) := by
  unfold dm
  rw [if_neg (by decide), if_neg (by decide), if_neg (by decide), if_neg (by decide), if_neg (by decide), if_neg (by decide), if_neg (by decide), if_neg (by decide), if_neg (by decide), if_pos rfl]
theorem dq_16 {R : dk_Rt} {n a0 : Nat} {F : wq_F} : dq R n a0 25 F = (R 121 [a0] F).bind fun y108 => some (0, y108.2) := by
  unfold dq
  rw [if_neg (by decide), if_neg (by decide), if_neg (by decide), if_neg (by decide), if_neg (by decide), if_neg (by decide), if_neg (by decide), if_neg (by decide), if_neg (by decide), if_neg (by decide), if_neg (by decide), if_neg (by decide), if_neg (by decide), if_neg (by decide), if_pos rfl]
theorem dm_16 {n l p : Nat} {F : wq_F} : dm n 16 l p F = (dk_227 F).bind fun y120 => (dk_218 y120.2).bind fun y124 => od_g (y124.1 < 51) <| (dk_31 y124.2 28 (y120.2 0 41) (y120.2 0 50) (y124.2 14 y124.1)).bind fun y129 => (dk_31 y129.2 0 0 0 0).bind fun y133 => some (1, y133.2) := by
  unfold dm
  rw [if_neg (by decide), if_neg (by decide), if_neg (by decide), if_neg (by decide), if_neg (by decide), if_neg (by decide), if_neg (by decide), if_neg (by decide), if_neg (by decide), if_neg (by decide), if_neg (by decide), if_neg (by decide), if_neg (by decide), if_pos rfl]
theorem dq_21 {R : dk_Rt} {n a0 : Nat} {F : wq_F} : dq R n a0 30 F = (R 119 [a0] F).bind fun y138 => some (0, y138.2) := by
  unfold dq
  rw [if_neg (by decide), if_neg (by decide), if_neg (by decide), if_neg (by decide), if_neg (by decide), if_neg (by decide), if_neg (by decide), if_neg (by decide), if_neg (by decide), if_neg (by decide), if_neg (by decide), if_neg (by decide), if_neg (by decide), if_neg (by decide), if_neg (by decide), if_neg (by decide), if_neg (by decide), if_neg (by decide), if_neg (by decide), if_pos rfl]
theorem dm_21 {n l p : Nat} {F : wq_F} : dm n 21 l p F = (dk_30 F 0 0 0 0).bind fun y163 => (dk_31 y163.2 26 y163.1 0 0).bind fun y167 => (dk_31 y167.2 3 0 0 0).bind fun y171 => some (1, y171.2) := by
  unfold dm
  rw [if_neg (by decide), if_neg (by decide), if_neg (by decide), if_neg (by decide), if_neg (by decide), if_neg (by decide), if_neg (by decide), if_neg (by decide), if_neg (by decide), if_neg (by decide), if_neg (by decide), if_neg (by decide), if_neg (by decide), if_neg (by decide), if_neg (by decide), if_neg (by decide), if_neg (by decide), if_neg (by decide), if_pos rfl]
theorem dq_no {R : dk_Rt} {n a0 y : Nat} {F : wq_F} (h : y < 11 ∨ 30 < y) : dq R n a0 y F = (R 140 [a0] F).bind fun y143 => some (0, y143.2) := by
  unfold dq
  rw [if_neg (by omega), if_neg (by omega), if_neg (by omega), if_neg (by omega), if_neg (by omega), if_neg (by omega), if_neg (by omega), if_neg (by omega), if_neg (by omega), if_neg (by omega), if_neg (by omega), if_neg (by omega), if_neg (by omega), if_neg (by omega), if_neg (by omega), if_neg (by omega), if_neg (by omega), if_neg (by omega), if_neg (by omega), if_neg (by omega)]
theorem dq_eq {R : dk_Rt} {n a0 : Nat} {G : wq_F} (h : a0 ≤ 20) : dk_116 R n G a0 = (dk_111 n G 57).bind fun y2 => if y2.1 = 0 then (dk_78 y2.2 0 0 0 (y2.2 57 6)).bind fun y7 => dq R n a0 (y7.2 57 4) y7.2 else some (0, y2.2) := by
  unfold dk_116 dq
  rw [if_neg (fun z => by have := (wd_slt (by omega) (by omega)).mp z; omega)]
  simp only [od_letS]
theorem od_bc {m : Option (Nat × wq_F)} {f g : Nat × wq_F → Option (Nat × wq_F)} (h : ∀ y, f y = g y) : m.bind f = m.bind g := by
  rw [show f = g from funext h]
theorem od_ic {c : Prop} [Decidable c] {a a' b b' : Option (Nat × wq_F)} (h1 : a = a') (h2 : b = b') : (if c then a else b) = if c then a' else b' := by
  rw [h1, h2]
theorem od_gc {c : Prop} [Decidable c] {k k' : Option (Nat × wq_F)} (h : k = k') : od_g c k = od_g c k' := by
  rw [h]
theorem od_lc {v : Nat} {k k' : Nat → Option (Nat × wq_F)} (h : ∀ y, k y = k' y) : od_let v k = od_let v k' := by
  rw [show k = k' from funext h]
theorem dm_eq {n : Nat} {F : wq_F} : dk_226 n F = (dk_36 F 59).bind fun y1 => if y1.1 = 0 then (dk_215 y1.2).bind fun y6 => (dk_30 y6.2 0 0 0 0).bind fun y10 => od_g (y10.2 0 25 < 1502) <| if (y10.2 9 (y10.2 0 25)) = 4 then od_g (y10.2 0 25 < 1502) <| od_let (18446744073709551616 + y10.2 11 (y10.2 0 25)) fun y17 => (dk_210 y10.2).bind fun y20 => (dk_212 y20.2).bind fun y24 => if y24.1 = 0 then some (0, y24.2) else dm n (ev_oL2i y17) y6.1 y20.1 y24.2 else (dk_30 y10.2 14 0 0 0).bind fun y180 => (dk_31 y180.2 21 (y180.2 0 60) 0 0).bind fun y184 => (dk_31 y184.2 7 0 0 0).bind fun y188 => some (1, y188.2) else (dk_212 y1.2).bind fun y192 => some (y192.1, y192.2) := by
  unfold dk_226
  refine od_bc fun y1 => od_ic ?_ rfl
  refine od_bc fun y6 => od_bc fun y10 => od_gc (od_ic (od_gc ?_) rfl)
  refine od_lc fun y17 => od_bc fun y20 => od_bc fun y24 => od_ic rfl ?_
  unfold dm
  rw [od_letS]
section
variable {nn : Nat} {T : Nat → Nat} {n M O : Nat} {G0 : wq_F} {c0 : List (List Nat)} {i t w s nw ns np N : Nat} {off voff ph : Nat → Nat} {cx : Nat → List Nat} {c cb : List Nat} {W : List (Nat × Nat × Nat × Nat)} {L : List (Nat × Nat)} {P Q : List (Nat × Nat × Nat)} {ls cs : List (List Nat)} {F G : wq_F}

variable {Jr0 Jc0 : List Nat}
/-- behind the step -/
theorem st_in {D : Nat} {F1 K1 : wq_F} {m X : Option (Nat × wq_F)} (hE : eg T n M G0 c0 O N off voff ph cx cb F G i ls cs w s nw ns np c t W L P Q F1 K1 i ls cs (w + 1) (s + 1) nw ns np c) (hm : dk_226 nn F = m) (hf : rm_fr F F1) (h20 : F1 20 w = 0) (hbo : bo N L F G w s Jr0 Jc0) (h62 : ∀ l, l < N → G 62 l < np)
    (h : wok X (fun _ K => (∃ i' w' s' nw' ns' np' ls' cs' H c' off' voff' ph' L' Jr Jc, rgo nn F1 (m) H ∧ ge T n M G0 c0 O N cx cb F1 K1 i ls cs (w + 1) (s + 1) nw ns np c off voff ph L Jr0 Jc0 t W P Q H K i' ls' cs' w' s' nw' ns' np' c' off' voff' ph' L' Jr Jc ∧ lo N voff c voff' ph' c' K ∧ rts i (w + 1) (s + 1) nw ns i' (w' + 1) (s' + 1) nw' ns' ∧ hg c' + 2 * i ≤ hg c + 2 * i') ∨ ∃ e p, rba nn F1 (m) e p ∧ sxy T n G0 c0 O e p N (zz D + 98) K)) : wok X (fun _ K => (∃ i' w' s' nw' ns' np' ls' cs' H c' off' voff' ph' L' Jr Jc, rgo nn F (dk_226 nn F) H ∧ ge T n M G0 c0 O N cx cb F G i ls cs w s nw ns np c off voff ph L Jr0 Jc0 t W P Q H K i' ls' cs' w' s' nw' ns' np' c' off' voff' ph' L' Jr Jc ∧ lo N voff c voff' ph' c' K ∧ rts i w s nw ns i' w' s' nw' ns' ∧ hg c' + 2 * i ≤ hg c + 2 * i' ∧ (w < w' → H 20 w = 0)) ∨ ∃ e p, rba nn F (dk_226 nn F) e p ∧ sxy T n G0 c0 O e p N (zz D + 100) K) := by
  rw [hm]
  refine wok_m h fun r K h => ?_
  rcases h with ⟨i', w', s', nw', ns', np', ls', cs', H, c', off', voff', ph', L', Jr, Jc, g, gE, l1, ⟨t1, t2, t3, t4, t5⟩, t6⟩ | ⟨e, p, ho, hx⟩
  · have h2 : H 20 w = 0 := (gE.2.2.2.1.2.1.1 20 w (by decide) (by decide) (Nat.lt_succ_self w)).trans h20
    have GE := ge_t (ge_eg hE hbo) (gE : ge T n M G0 c0 O N cx cb F1 K1 i ls cs (w + 1) (s + 1) nw ns np c off voff ph L ([] ++ Jr0) ([] ++ Jc0) t W P Q H K i' ls' cs' w' s' nw' ns' np' c' off' voff' ph' L' Jr Jc) h62
    exact Or.inl ⟨i', w', s', nw', ns', np', ls', cs', H, c', off', voff', ph', L', Jr ++ [], Jc ++ [], rgo_fr g hf, GE, l1, ⟨by omega, by omega, by omega, by omega, by omega⟩, t6, fun _ => h2⟩
  · exact Or.inr ⟨e, p, rba_fr ho hf, sxy_le hx (by omega)⟩
theorem st_which {D : Nat} (hM : tk_M T n M) (hn : 10000 < nn) (hc0 : c0.length ≤ 1400) (hO : O ≤ 20000) (hn2 : 14000 < nn) (hD : D ≤ 20) (hE : E_ok nn T n M G0 c0 O (D + 1)) (hBk : Bk_ok nn T n M G0 c0 O (D + 1)) (hBf : B_ok nn T n M G0 c0 O D) (hT : Tb_ok nn T n M G0 c0 O D) : St_ok nn T n M G0 c0 O D := by
  intro k i t w s nw ns np N off voff ph cx c cb W L P Q ls cs F G Jr0 Jc0 hk htD hs hr hc hb hB hW hbo hib hfs
  have hz : 6310 ≤ zz D ∧ zz D < 9800 ∧ zz (D + 1) + 110 = zz D := by unfold zz; omega
  obtain ⟨m1, m2, m3, m4, m5, m6, m7, m8, m9, m10, m11, m12⟩ := hB
  have hM1 := hM.1
  have hiM := hr.1.2.2.1
  have h62 := hb.2.2.2.2.2.1
  have hw1 : F 0 41 = w := hr.2.1.2.1
  obtain ⟨a, rfl⟩ : ∃ a, k = a + 1 + 1 := ⟨k - 2, by omega⟩
  rw [dk_Re_116, dq_eq hD]
  have h36 := pm_isSign hM hr.1 (c := 59) (by decide)
  have hm0 := dm_eq (n := nn) (F := F)
  rw [h36, od_bS] at hm0
  dsimp only at hm0
  refine wok_b (e_opt (cb := cb) (x := 59) (B := 6210) hM hr hc hb (by decide) (by decide) hn hc0 hO (by omega) (by omega) m5 (by omega)) fun r K0 h0 => ?_
  rcases h0 with ⟨ms, e0, iM, q, e4, e5, f4⟩ | ⟨q, e4, e0, hx⟩ | ⟨e0, q, eK⟩
  · dsimp only
    rw [if_pos q, if_neg (by decide), e4, od_bS] at hm0
    dsimp only at hm0
    refine wok_f (by rw [e0]; decide) (wok_r ?_)
    rw [hm0]
    have ff : rm_fr F (wq_up F 0 25 (i + 1)) := rm_fr_up (rm_fr_refl _) (by decide) (by decide)
    exact Or.inl ⟨i + 1, w, s, nw, ns, np, ls, ms, _, c, off, voff, ph, L, [], [], rgo_i rfl (by decide) e5.1.1.1 ff, ge_eg e5 hbo, lo_refl rfl, ⟨by omega, by omega, by omega, by omega, by omega⟩, by omega, fun z => absurd z (by omega)⟩
  · dsimp only
    rw [if_pos q, if_neg (by decide), e4, od_bS] at hm0
    dsimp only at hm0
    refine wok_f (by rw [e0]; decide) (wok_r ?_)
    exact Or.inr ⟨_, _, rba_f hm0 (rm_fr_refl _) (by omega), Or.inl (sx_le hx (by omega))⟩
  dsimp only
  rw [if_neg q, if_pos rfl, pm_line hM hr.1, od_bS] at hm0
  dsimp only at hm0
  rw [dkS_30 (by omega), od_bS] at hm0
  dsimp only at hm0
  have eK := eK.symm
  subst eK
  refine wok_t e0 ?_
  refine wok_b (e_step (cb := cb) (l := 0) (a := 0) (b := 0) hr hc hb m5 (by omega)) fun r1 K1 h1 => ?_
  dsimp only
  obtain ⟨_, E1, _, _⟩ := h1
  have ff : rm_fr F (pm_em F 0 0 0 0) := rm_fr_em (rm_fr_refl _)
  have ys2 : pm_em F 0 0 0 0 20 w = 0 := by
    have z := pm_em_at (F := F) (op := 0) (a := 0) (b := 0) (ln := 0)
    rw [hw1] at z
    exact z.1
  have bo1 := (ge_eg E1 hbo).2.2.2.2.2.2.2.1
  generalize pm_em F 0 0 0 0 = F1 at *
  have hkd := pm_kind E1.1.1
  have hp := pm_here hM E1.1.1
  have h57 : K1 57 4 = tk_ty T n (tk_pos T n i) := E1.2.1.1.2.1.1
  have hB1 : bnd i (w + 1) (s + 1) nw ns np t (hg c) W L P Q N := ⟨by omega, by omega, m3, m4, m5, m6, m7, m8, m9, m10, m11, m12⟩
  rw [od_g1 (pm_b hM E1.1.1)] at hm0
  rw [h57]
  have hk4 : tk_k T n i = tk_K T n (tk_pos T n i) := rfl
  by_cases q4 : tk_k T n i = 4
  rotate_left
  · rw [if_neg (fun z => q4 (hkd.symm.trans z))] at hm0
    have hty : tk_ty T n (tk_pos T n i) < 11 ∨ 30 < tk_ty T n (tk_pos T n i) := by
      rcases tk_ty_all (T := T) (n := n) (p := tk_pos T n i) with e | e | e | e | e | e | e <;> omega
    rw [dq_no hty, dk_Re_140]
    refine wok_b (A := (fun _ K => (∃ i' w' s' nw' ns' np' ls' cs' H c' off' voff' ph' L' Jr Jc, rgo nn F (dk_226 nn F) H ∧ ge T n M G0 c0 O N cx cb F G i ls cs w s nw ns np c off voff ph L Jr0 Jc0 t W P Q H K i' ls' cs' w' s' nw' ns' np' c' off' voff' ph' L' Jr Jc ∧ lo N voff c voff' ph' c' K ∧ rts i w s nw ns i' w' s' nw' ns' ∧ hg c' + 2 * i ≤ hg c + 2 * i' ∧ (w < w' → H 20 w = 0)) ∨ ∃ e p, rba nn F (dk_226 nn F) e p ∧ sxy T n G0 c0 O e p N (zz D + 100) K)) ?_ fun r K h => wok_r h
    refine st_in E1 hm0 ff ys2 hbo h62 ?_
    exact st_chain (k := a) hM hn hc0 hO hn2 hD hE hT (by omega) htD E1.1 E1.2.1 E1.2.2.1 ⟨m1, by omega, m3, m4, m5, m6, m7, m8, m9, m10, m11, m12⟩ hW.1 ⟨hW.2.2.2.1, hW.2.2.2.2⟩ bo1
  rw [if_pos (hkd.trans q4), od_g1 (pm_b hM E1.1.1), od_letS, hp, od_bS] at hm0
  dsimp only at hm0
  have hvv : F1 11 (F1 0 25) = tk_V T n (tk_pos T n i) := by
    rw [E1.1.1.2.1]
    exact (E1.1.1.2.2.2.2.2.1 i (by omega)).2.2.1 (Or.inr (Or.inl q4))
  rw [hvv, tb_l2i (by have := tk_V4 (T := T) (n := n) (p := tk_pos T n i) q4; omega)] at hm0
  have hV : tk_V T n (tk_pos T n i) = 2 ∨ tk_V T n (tk_pos T n i) = 3 ∨ tk_V T n (tk_pos T n i) = 8 ∨ tk_V T n (tk_pos T n i) = 9 ∨ tk_V T n (tk_pos T n i) = 10 ∨ tk_V T n (tk_pos T n i) = 12 ∨ tk_V T n (tk_pos T n i) = 16 ∨ tk_V T n (tk_pos T n i) = 21 := by
    have ht : tk_ty T n (tk_pos T n i) = 9 + tk_V T n (tk_pos T n i) ∧ 1 ≤ tk_V T n (tk_pos T n i) ∧ tk_V T n (tk_pos T n i) ≤ 21 := by
      rcases tk_ty_all (T := T) (n := n) (p := tk_pos T n i) with e | e | e | e | e | e | e <;> omega
    rw [ht.1] at hs
    unfold tb_st at hs
    revert hs
    repeat (split; · omega)
    intro hs
    exact absurd rfl hs
  have ht : tk_ty T n (tk_pos T n i) = 9 + tk_V T n (tk_pos T n i) := by
    rcases tk_ty_all (T := T) (n := n) (p := tk_pos T n i) with e | e | e | e | e | e | e <;> omega
  rw [ht]
  rcases hV with qv | qv | qv | qv | qv | qv | qv | qv
  · rw [qv] at hm0 ⊢
    rw [show (fun y24 : Nat × wq_F => if y24.1 = 0 then some (0, y24.2) else dm nn 2 (1 + lc T (tk_pos T n i)) (tk_pos T n i) y24.2) = fun y24 => if y24.1 = 0 then some (0, y24.2) else dk_229 y24.2 (tk_pos T n i) from funext fun y24 => by rw [dm_2]] at hm0
    rw [show 9 + 2 = 11 from rfl, dq_2]
    refine wok_b (A := (fun _ K => (∃ i' w' s' nw' ns' np' ls' cs' H c' off' voff' ph' L' Jr Jc, rgo nn F (dk_226 nn F) H ∧ ge T n M G0 c0 O N cx cb F G i ls cs w s nw ns np c off voff ph L Jr0 Jc0 t W P Q H K i' ls' cs' w' s' nw' ns' np' c' off' voff' ph' L' Jr Jc ∧ lo N voff c voff' ph' c' K ∧ rts i w s nw ns i' w' s' nw' ns' ∧ hg c' + 2 * i ≤ hg c + 2 * i' ∧ (w < w' → H 20 w = 0)) ∨ ∃ e p, rba nn F (dk_226 nn F) e p ∧ sxy T n G0 c0 O e p N (zz D + 100) K)) ?_ fun r K h => wok_r h
    refine st_in E1 hm0 ff ys2 hbo h62 ?_
    exact wok_m (st_break (D := D) hM hn hc0 hO E1.1 E1.2.1 E1.2.2.1 hB1 hW.1 hW.2.1 hW.2.2.1 bo1 hib hfs ⟨q4, qv⟩) fun r K h => h.imp_right fun ⟨e, p, h1, h2⟩ => ⟨e, p, h1, Or.inl h2⟩
  · rw [qv] at hm0 ⊢
    rw [show (fun y24 : Nat × wq_F => if y24.1 = 0 then some (0, y24.2) else dm nn 3 (1 + lc T (tk_pos T n i)) (tk_pos T n i) y24.2) = fun y24 => if y24.1 = 0 then some (0, y24.2) else (dk_31 y24.2 30 0 0 0).bind fun y34 => (dk_224 y34.2).bind fun y38 => some (1, y38.2) from funext fun y24 => by rw [dm_3]] at hm0
    rw [show 9 + 3 = 12 from rfl, dq_3]
    refine st_in E1 hm0 ff ys2 hbo h62 ?_
    exact wok_m (st_do (k := a + 1) hM hn hc0 hO hD hBk (by omega) htD E1.1 E1.2.1 E1.2.2.1 hB1 hW.1 hW.2.1 hW.2.2.1 bo1 hib hfs ⟨q4, qv⟩) fun r K h => h.imp_right fun ⟨e, p, h1, h2⟩ => ⟨e, p, h1, Or.inl h2⟩
  · rw [qv] at hm0 ⊢
    rw [show (fun y24 : Nat × wq_F => if y24.1 = 0 then some (0, y24.2) else dm nn 8 (1 + lc T (tk_pos T n i)) (tk_pos T n i) y24.2) = fun y24 => if y24.1 = 0 then some (0, y24.2) else (dk_233 nn y24.2 (1 + lc T (tk_pos T n i))).bind fun y68 => some (y68.1, y68.2) from funext fun y24 => by rw [dm_8]] at hm0
    rw [show 9 + 8 = 17 from rfl, dq_8, dk_Re_126]
    refine wok_b (A := (fun _ K => (∃ i' w' s' nw' ns' np' ls' cs' H c' off' voff' ph' L' Jr Jc, rgo nn F (dk_226 nn F) H ∧ ge T n M G0 c0 O N cx cb F G i ls cs w s nw ns np c off voff ph L Jr0 Jc0 t W P Q H K i' ls' cs' w' s' nw' ns' np' c' off' voff' ph' L' Jr Jc ∧ lo N voff c voff' ph' c' K ∧ rts i w s nw ns i' w' s' nw' ns' ∧ hg c' + 2 * i ≤ hg c + 2 * i' ∧ (w < w' → H 20 w = 0)) ∨ ∃ e p, rba nn F (dk_226 nn F) e p ∧ sxy T n G0 c0 O e p N (zz D + 100) K)) ?_ fun r K h => wok_r h
    refine st_in E1 hm0 ff ys2 hbo h62 ?_
    exact wok_m (st_for (k := a) hM hn hc0 hO hn2 hD hE hBk (by omega) htD E1.1 E1.2.1 E1.2.2.1 hB1 hW.1 hW.2.1 hW.2.2.1 bo1 hib hfs ⟨q4, qv⟩) fun r K h => h.imp_right fun ⟨e, p, h1, h2⟩ => ⟨e, p, h1, Or.inl h2⟩
  · rw [qv] at hm0 ⊢
    rw [show (fun y24 : Nat × wq_F => if y24.1 = 0 then some (0, y24.2) else dm nn 9 (1 + lc T (tk_pos T n i)) (tk_pos T n i) y24.2) = fun y24 => if y24.1 = 0 then some (0, y24.2) else (dk_232 nn y24.2).bind fun y74 => some (y74.1, y74.2) from funext fun y24 => by rw [dm_9]] at hm0
    rw [show 9 + 9 = 18 from rfl, dq_9, dk_Re_131]
    refine wok_b (A := (fun _ K => (∃ i' w' s' nw' ns' np' ls' cs' H c' off' voff' ph' L' Jr Jc, rgo nn F (dk_226 nn F) H ∧ ge T n M G0 c0 O N cx cb F G i ls cs w s nw ns np c off voff ph L Jr0 Jc0 t W P Q H K i' ls' cs' w' s' nw' ns' np' c' off' voff' ph' L' Jr Jc ∧ lo N voff c voff' ph' c' K ∧ rts i w s nw ns i' w' s' nw' ns' ∧ hg c' + 2 * i ≤ hg c + 2 * i' ∧ (w < w' → H 20 w = 0)) ∨ ∃ e p, rba nn F (dk_226 nn F) e p ∧ sxy T n G0 c0 O e p N (zz D + 100) K)) ?_ fun r K h => wok_r h
    refine st_in E1 hm0 ff ys2 hbo h62 ?_
    exact wok_m (st_function (k := a) hM hn hc0 hO hD hBf (by omega) htD E1.1 E1.2.1 E1.2.2.1 hB1 hW.1 hW.2.1 hW.2.2.1 bo1 hib hfs ⟨q4, qv⟩) fun r K h => h.imp_right fun ⟨e, p, h1, h2⟩ => ⟨e, p, h1, Or.inl h2⟩
  · rw [qv] at hm0 ⊢
    rw [show (fun y24 : Nat × wq_F => if y24.1 = 0 then some (0, y24.2) else dm nn 10 (1 + lc T (tk_pos T n i)) (tk_pos T n i) y24.2) = fun y24 => if y24.1 = 0 then some (0, y24.2) else (dk_31 y24.2 23 4294967295 0 0).bind fun y80 => (dk_31 y80.2 3 0 0 0).bind fun y84 => some (1, y84.2) from funext fun y24 => by rw [dm_10]] at hm0
    rw [show 9 + 10 = 19 from rfl, dq_10, dk_Re_122]
    obtain ⟨a, rfl⟩ : ∃ b, a = b + 1 := ⟨a - 1, by omega⟩
    refine wok_b (A := (fun _ K => (∃ i' w' s' nw' ns' np' ls' cs' H c' off' voff' ph' L' Jr Jc, rgo nn F (dk_226 nn F) H ∧ ge T n M G0 c0 O N cx cb F G i ls cs w s nw ns np c off voff ph L Jr0 Jc0 t W P Q H K i' ls' cs' w' s' nw' ns' np' c' off' voff' ph' L' Jr Jc ∧ lo N voff c voff' ph' c' K ∧ rts i w s nw ns i' w' s' nw' ns' ∧ hg c' + 2 * i ≤ hg c + 2 * i' ∧ (w < w' → H 20 w = 0)) ∨ ∃ e p, rba nn F (dk_226 nn F) e p ∧ sxy T n G0 c0 O e p N (zz D + 100) K)) ?_ fun r K h => wok_r h
    refine st_in E1 hm0 ff ys2 hbo h62 ?_
    exact wok_m (st_if (k := a) hM hn hc0 hO hn2 hD hE hBk (by omega) htD E1.1 E1.2.1 E1.2.2.1 hB1 hW.1 hW.2.1 hW.2.2.1 bo1 hib hfs ⟨q4, qv⟩) fun r K h => h.imp_right fun ⟨e, p, h1, h2⟩ => ⟨e, p, h1, Or.inl h2⟩
  · rw [qv] at hm0 ⊢
    rw [show (fun y24 : Nat × wq_F => if y24.1 = 0 then some (0, y24.2) else dm nn 12 (1 + lc T (tk_pos T n i)) (tk_pos T n i) y24.2) = fun y24 => if y24.1 = 0 then some (0, y24.2) else (dk_230 nn y24.2).bind fun y96 => some (y96.1, y96.2) from funext fun y24 => by rw [dm_12]] at hm0
    rw [show 9 + 12 = 21 from rfl, dq_12, dk_Re_130]
    refine wok_b (A := (fun _ K => (∃ i' w' s' nw' ns' np' ls' cs' H c' off' voff' ph' L' Jr Jc, rgo nn F (dk_226 nn F) H ∧ ge T n M G0 c0 O N cx cb F G i ls cs w s nw ns np c off voff ph L Jr0 Jc0 t W P Q H K i' ls' cs' w' s' nw' ns' np' c' off' voff' ph' L' Jr Jc ∧ lo N voff c voff' ph' c' K ∧ rts i w s nw ns i' w' s' nw' ns' ∧ hg c' + 2 * i ≤ hg c + 2 * i' ∧ (w < w' → H 20 w = 0)) ∨ ∃ e p, rba nn F (dk_226 nn F) e p ∧ sxy T n G0 c0 O e p N (zz D + 100) K)) ?_ fun r K h => wok_r h
    refine st_in E1 hm0 ff ys2 hbo h62 ?_
    exact wok_m (st_local (k := a) hM hn hc0 hO hn2 hD hE hBf (by omega) htD E1.1 E1.2.1 E1.2.2.1 hB1 hW.1 hW.2.1 hW.2.2.1 bo1 hib hfs ⟨q4, qv⟩) fun r K h => h.imp_right fun ⟨e, p, h1, h2⟩ => ⟨e, p, h1, Or.inl h2⟩
  · rw [qv] at hm0 ⊢
    rw [show (fun y24 : Nat × wq_F => if y24.1 = 0 then some (0, y24.2) else dm nn 16 (1 + lc T (tk_pos T n i)) (tk_pos T n i) y24.2) = fun y24 => if y24.1 = 0 then some (0, y24.2) else (dk_227 y24.2).bind fun y120 => (dk_218 y120.2).bind fun y124 => od_g (y124.1 < 51) <| (dk_31 y124.2 28 (y120.2 0 41) (y120.2 0 50) (y124.2 14 y124.1)).bind fun y129 => (dk_31 y129.2 0 0 0 0).bind fun y133 => some (1, y133.2) from funext fun y24 => by rw [dm_16]] at hm0
    rw [show 9 + 16 = 25 from rfl, dq_16, dk_Re_121]
    refine wok_b (A := (fun _ K => (∃ i' w' s' nw' ns' np' ls' cs' H c' off' voff' ph' L' Jr Jc, rgo nn F (dk_226 nn F) H ∧ ge T n M G0 c0 O N cx cb F G i ls cs w s nw ns np c off voff ph L Jr0 Jc0 t W P Q H K i' ls' cs' w' s' nw' ns' np' c' off' voff' ph' L' Jr Jc ∧ lo N voff c voff' ph' c' K ∧ rts i w s nw ns i' w' s' nw' ns' ∧ hg c' + 2 * i ≤ hg c + 2 * i' ∧ (w < w' → H 20 w = 0)) ∨ ∃ e p, rba nn F (dk_226 nn F) e p ∧ sxy T n G0 c0 O e p N (zz D + 100) K)) ?_ fun r K h => wok_r h
    refine st_in E1 hm0 ff ys2 hbo h62 ?_
    exact wok_m (st_repeat (k := a) hM hn hc0 hO hn2 hD hE hBk (by omega) htD E1.1 E1.2.1 E1.2.2.1 hB1 hW.1 hW.2.1 hW.2.2.1 bo1 hib hfs ⟨q4, qv⟩) fun r K h => h.imp_right fun ⟨e, p, h1, h2⟩ => ⟨e, p, h1, Or.inl h2⟩
  · rw [qv] at hm0 ⊢
    rw [show (fun y24 : Nat × wq_F => if y24.1 = 0 then some (0, y24.2) else dm nn 21 (1 + lc T (tk_pos T n i)) (tk_pos T n i) y24.2) = fun y24 => if y24.1 = 0 then some (0, y24.2) else (dk_30 y24.2 0 0 0 0).bind fun y163 => (dk_31 y163.2 26 y163.1 0 0).bind fun y167 => (dk_31 y167.2 3 0 0 0).bind fun y171 => some (1, y171.2) from funext fun y24 => by rw [dm_21]] at hm0
    rw [show 9 + 21 = 30 from rfl, dq_21, dk_Re_119]
    refine wok_b (A := (fun _ K => (∃ i' w' s' nw' ns' np' ls' cs' H c' off' voff' ph' L' Jr Jc, rgo nn F (dk_226 nn F) H ∧ ge T n M G0 c0 O N cx cb F G i ls cs w s nw ns np c off voff ph L Jr0 Jc0 t W P Q H K i' ls' cs' w' s' nw' ns' np' c' off' voff' ph' L' Jr Jc ∧ lo N voff c voff' ph' c' K ∧ rts i w s nw ns i' w' s' nw' ns' ∧ hg c' + 2 * i ≤ hg c + 2 * i' ∧ (w < w' → H 20 w = 0)) ∨ ∃ e p, rba nn F (dk_226 nn F) e p ∧ sxy T n G0 c0 O e p N (zz D + 100) K)) ?_ fun r K h => wok_r h
    refine st_in E1 hm0 ff ys2 hbo h62 ?_
    exact wok_m (st_while (k := a) hM hn hc0 hO hn2 hD hE hBk (by omega) htD E1.1 E1.2.1 E1.2.2.1 hB1 hW.1 hW.2.1 hW.2.2.1 bo1 hib hfs ⟨q4, qv⟩) fun r K h => h.imp_right fun ⟨e, p, h1, h2⟩ => ⟨e, p, h1, Or.inl h2⟩
end
