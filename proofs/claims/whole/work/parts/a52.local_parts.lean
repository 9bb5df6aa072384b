/-! ===== a52: local: names and values (wip/whole2/lawa52.py) ===== -/
/-- the reference behind a name of a local statement -/
def loE (nn i0 v0 g : Nat) (F : wq_F) (v : Nat) : Option (Nat × wq_F) := (dk_36 F 44).bind fun y67 => if y67.1 = 0 then dk_230_136 nn g y67.2 i0 v v0 y67.1 else (dk_212 y67.2).bind fun y72 => if y72.1 = 0 then some (0, y72.2) else dk_230_136 nn g y72.2 i0 v v0 y67.1
/-- ... behind the last one -/
def loF (nn i0 v0 : Nat) (F : wq_F) (v : Nat) : Option (Nat × wq_F) :=
  (dk_30 F 14 0 0 0).bind fun y2 =>
  (dk_36 y2.2 61).bind fun y6 =>
  if y6.1 = 0 then
    (dk_231 nn y6.2 0 i0 v v0).bind fun y44 => some (y44.1, y44.2)
  else
    (dk_215 y6.2).bind fun y11 =>
    (dk_212 y11.2).bind fun y15 =>
    if y15.1 = 0 then
      some (0, y15.2)
    else
      (dk_217 y15.2).bind fun y20 =>
      if y20.1 = 0 then
        (dk_211 y20.2).bind fun y40 => some (y40.1, y40.2)
      else
        od_let (((ev_oMul v 100) + v0) % 4294967296) fun y25 =>
        (dk_31 y20.2 39 y11.1 i0 y25).bind fun y28 =>
        (dk_31 y28.2 14 0 0 0).bind fun y32 =>
        (dk_31 y32.2 3 0 0 0).bind fun y36 =>
        some (1, y36.2)
theorem loE_s {nn i0 v0 g v : Nat} {F : wq_F} (hv : v ≤ 50) : dk_230_136 nn (g + 1) F i0 v v0 1 = nmR F fun _ F' => loE nn i0 v0 g F' (v + 1) := by
  show dk_230_136b nn (dk_230_136 nn g) F i0 v v0 1 = _
  unfold dk_230_136b
  have e : (v + 1) % 4294967296 = v + 1 := by omega
  rw [if_neg (by decide), e]
  rfl
theorem loE_0 {nn i0 v0 g v : Nat} {F : wq_F} (h : dk_36 F 44 = some (0, F)) : loE nn i0 v0 (g + 1) F v = loF nn i0 v0 F v := by
  unfold loE
  rw [h, od_bS]
  dsimp only
  rw [if_pos rfl]
  show dk_230_136b nn (dk_230_136 nn g) F i0 v v0 0 = _
  unfold dk_230_136b
  rw [if_pos rfl]
  rfl
theorem loE_1 {nn i0 v0 g v : Nat} {F : wq_F} (hv : v ≤ 50) (h : dk_36 F 44 = some (1, F)) : loE nn i0 v0 (g + 1) F v = (dk_212 F).bind fun y43 => if y43.1 = 0 then some (0, y43.2) else nmR y43.2 fun _ F' => loE nn i0 v0 g F' (v + 1) := by
  unfold loE
  rw [h, od_bS]
  dsimp only
  rw [if_neg (by decide)]
  cases dk_212 F with
  | none => rfl
  | some y =>
    rw [od_bS, od_bS]
    by_cases q : y.1 = 0
    · rw [if_pos q, if_pos q]
    · rw [if_neg q, if_neg q]
      exact loE_s hv
section
variable {nn : Nat} {T : Nat → Nat} {n M O : Nat} {G0 : wq_F} {c0 : List (List Nat)} {i t w s nw ns np N : Nat} {off voff ph : Nat → Nat} {cx : Nat → List Nat} {c cb : List Nat} {W : List (Nat × Nat × Nat × Nat)} {L : List (Nat × Nat)} {P Q : List (Nat × Nat × Nat)} {ls cs : List (List Nat)} {F G : wq_F}

variable {f v0 : Nat} {Jr0 Jc0 : List Nat}
theorem sx_lo3 {e p B a h r v ln : Nat} (hx : sx T n G0 c0 O e p N B G) (hB : B < 9990) (ha : a ≤ 1200) (hv : v < 10000) (hn : 10000 < nn) : wok ((dk_129 G r h v ln).bind fun y46 => (dk_167 nn y46.2 a h).bind fun y50 => some (0, y50.2)) (fun _ K => sx T n G0 c0 O e p N (B + 1) K) := by
  refine wok_b (sx_129 hx (by omega) hv) fun r K hx => ?_
  exact wok_b (sx_167 hx ha hn) fun r K hx => wok_r hx
theorem sx_lo2 {R : dk_Rt} {e p B a h d : Nat} (hx : sx T n G0 c0 O e p N B G) (hB : B < 9990) (ha : a ≤ 1200) (hn : 10000 < nn) : wok (od_let (((G 59 3) + (4294967296 - a)) % 4294967296) fun y26 => (dk_111 nn G 49).bind fun y29 => if y29.1 = 0 then (dk_112 y29.2 1 y26 0 y26).bind fun y34 => (dk_167 nn y34.2 a h).bind fun y38 => some (0, y38.2) else (R 144 [d] y29.2).bind fun y42 => (dk_129 y42.2 y42.1 h y26 (G 57 6)).bind fun y46 => (dk_167 nn y46.2 a h).bind fun y50 => some (0, y50.2)) (fun _ K => sx T n G0 c0 O e p N (B + 1) K) := by
  rw [od_letS]
  refine wok_b (sx_111 hx (by decide)) fun r K hx => ?_
  refine wok_t hx.1 ?_
  refine wok_b (sx_112 hx.2 (by omega)) fun r K hx => ?_
  exact wok_b (sx_167 hx ha hn) fun r K hx => wok_r hx
/-- values made, names known -/
theorem loc_end {F1 K1 F4 K4 A : wq_F} {D v i1 i4 w4 s4 nw4 ns4 np4 : Nat} {RLV : Option (Nat × wq_F)} {cs1 ls4 cs4 : List (List Nat)} (hM : tk_M T n M) (hn : 10000 < nn) (hb : bz N off voff ph cx c np F ls G cs) (hnp : np ≤ 50) (hbo : bo N L F G w s Jr0 Jc0) (hf : G 62 (N - 1) = f) (hv0 : F 14 f = v0) (hp : nq T n N off voff ph cx c np i v F1 ls K1 cs1) (h14 : F1 14 f = v0 + v) (hs1 : st_pre cs cs1) (xf1 : nm_f f F F1) (xg1 : nm_g f (off N) G K1) (hi : i ≤ i1) (hi0 : i + 2 * v ≤ M + 1) (E4 : eg T n M G0 c0 O N (at_N off N (off N + v)) voff ph cx cb F1 K1 i1 ls cs1 w s nw ns np c t W L P Q F4 K4 i4 ls4 cs4 w4 s4 nw4 ns4 np4 (List.replicate v 0 ++ c)) (hw4 : w4 + v < 14000) (hh : hg c < 100000) (hv : v ≤ 50)
    (rts4 : i < i4 ∧ w4 + v + 6 * i ≤ w + 6 * i4 ∧ s4 + 4 * i ≤ s + 4 * i4 ∧ nw4 + i ≤ nw + i4 ∧ ns4 + i ≤ ns + i4) (hh4 : v + 2 * i ≤ 2 * i4)
    (hgo : ∀ H, rgo nn A (dk_231_34 nn nn F4 i v v0 ((v + 4294967295) % 4294967296)) H → rgo nn F RLV H) (hA : rm_fr A F4) : wok ((dk_167 nn K4 (off N) (hg c)).bind fun y => some (0, y.2)) (fun _ K => (∃ i' w' s' nw' ns' np' ls' cs' H c' off' voff' ph', rgo nn F RLV H ∧ ge T n M G0 c0 O N cx cb F G i ls cs w s nw ns np c off voff ph L Jr0 Jc0 t W P Q H K i' ls' cs' w' s' nw' ns' np' c' off' voff' ph' L [] [] ∧ lo N voff c voff' ph' c' K ∧ (i < i' ∧ w' + 6 * i ≤ w + 6 * i' ∧ s' + 4 * i ≤ s + 4 * i' ∧ nw' + i ≤ nw + i' ∧ ns' + i ≤ ns + i') ∧ hg c' + 2 * i ≤ hg c + 2 * i') ∨ ∃ e p, rba nn F RLV e p ∧ sx T n G0 c0 O e p N (zz D + 95) K) := by
  obtain ⟨H, K, ph', d34, d167, ff, GE, LO⟩ := loc_done (nn := nn) hM hn hb hnp hbo hf hv0 hp h14 hs1 xf1 xg1 hi hi0 E4 hw4 hh
  rw [d167, od_bS]
  refine wok_r ?_
  dsimp only
  refine Or.inl ⟨i4, w4 + v, s4, nw4, ns4, np4, ls4, cs4, H, lcs v0 v ++ c, _, _, ph', hgo H (rgo_i d34 (by decide) GE.1.1.1 (rm_fr_trans hA ff)), GE, LO, rts4, ?_⟩
  rw [hg_app, hg_lcs]
  omega
end
