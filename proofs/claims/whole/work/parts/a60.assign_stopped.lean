/-! ===== a60: the stopped class in an assignment (wip/whole2/lawa60.py) ===== -/
theorem dv_3 : ∀ m, m < 21 → ev_oDiv (3 * m) 3 = m := by decide +kernel
section
variable {nn : Nat} {T : Nat → Nat} {n M O : Nat} {G0 : wq_F} {c0 : List (List Nat)} {i t w s nw ns np N : Nat} {off voff ph : Nat → Nat} {cx : Nat → List Nat} {c cb : List Nat} {W : List (Nat × Nat × Nat × Nat)} {L : List (Nat × Nat)} {P Q : List (Nat × Nat × Nat)} {ls cs : List (List Nat)} {F G : wq_F}

theorem sx_142e {e p B : Nat} (hx : sx T n G0 c0 O e p N B G) : dk_142 G = some (0, G) := by
  unfold dk_142
  rw [if_neg (sx_ne hx (by decide)), if_neg (sx_ne hx (by decide))]
  unfold dk_142_29
  rw [if_pos rfl, px_refused hx.1, od_bS]
theorem sx_155s {R : dk_Rt} {e p h v3 : Nat} (hv : v3 ≤ 1320) : ∀ (m g B : Nat) (G : wq_F), sx T n G0 c0 O e p N B G → m < g → v3 + 3 * m ≤ 1320 → B + m + 2 < 10000 → wok (dk_141_155 R nn g G h v3 ((v3 + 3 * m + 4294967293) % 4294967296)) (fun _ K => sx T n G0 c0 O e p N (B + m + 1) K) := by
  intro m
  induction m with
  | zero =>
    intro g B G hx hg hm hB
    obtain ⟨g, rfl⟩ : ∃ a, g = a + 1 := ⟨g - 1, by omega⟩
    show wok (dk_141_155b R nn (dk_141_155 R nn g) G h v3 ((v3 + 3 * 0 + 4294967293) % 4294967296)) _
    unfold dk_141_155b
    have hlt : ev_s ((v3 + 3 * 0 + 4294967293) % 4294967296) < ev_s v3 := by
      by_cases z : v3 < 3
      · exact wd_sltN (by omega) (by omega) (by omega)
      · exact (wd_slt (by omega) (by omega)).mpr (by omega)
    refine wok_t hlt (wok_u ?_)
    exact wok_b (sx_132 (sx_pt hx hv) (by omega)) fun r K h => wok_r h
  | succ m ih =>
    intro g B G hx hg hm hB
    obtain ⟨g, rfl⟩ : ∃ a, g = a + 1 := ⟨g - 1, by omega⟩
    rw [show (v3 + 3 * (m + 1) + 4294967293) % 4294967296 = v3 + 3 * m by omega]
    show wok (dk_141_155b R nn (dk_141_155 R nn g) G h v3 (v3 + 3 * m)) _
    unfold dk_141_155b
    refine wok_f (fun z => by have := (wd_slt (by omega) (by omega)).mp z; omega) (wok_g (by omega) (wok_g (by omega) (wok_g (by omega) ?_)))
    refine wok_b (sx_143 hx (by omega)) fun r K h => ?_
    refine wok_l ?_
    exact wok_m (ih g (B + 1) K h (by omega) (by omega) (by omega)) fun r K h => sx_le h (by omega)
theorem sx_96 {k d e p B m h : Nat} (hx : sx T n G0 c0 O e p N B G) (h11 : G 56 11 = 3 * (Q.length + m)) (hm : m ≤ 20) (hQ : Q.length + m ≤ 440) (hk : 2 ≤ k) (hn : 10000 < nn) (hB : B + m + 4 < 10000) : wok (dk_141_96 (dk_R nn k) nn G d h (3 * Q.length)) (fun _ K => sx T n G0 c0 O e p N (B + m + 2) K) := by
  unfold dk_141_96
  rw [h11, show (3 * (Q.length + m) + (4294967296 - 3 * Q.length)) % 4294967296 = 3 * m by omega]
  refine wok_l ?_
  refine wok_b (wok_pe (sx_84 hx) (pe_84 h11)) fun r K h => ?_
  dsimp only
  refine wok_b (wok_pe (sx_110 h.1 (by decide)) (pe_110 h.2)) fun r K h => ?_
  dsimp only
  refine wok_b (wok_pe (sx_144 h.1 hk hn) (pe_R _ _ _ _ _ h.2)) fun r K h => ?_
  dsimp only
  rw [dv_3 m (by omega)]
  refine wok_b (wok_pe (sx_129 h.1 (by omega) (by omega)) (pe_129 h.2)) fun r K h => ?_
  refine wok_l ?_
  show wok (dk_141_155 (dk_R nn k) nn nn K _ (3 * Q.length) ((K 56 11 + (4294967296 - 3)) % 4294967296)) _
  rw [h.2, show (3 * (Q.length + m) + (4294967296 - 3)) % 4294967296 = (3 * Q.length + 3 * m + 4294967293) % 4294967296 by omega]
  exact wok_m (sx_155s (by omega) m nn _ K h.1 (by omega) (by omega) (by omega)) fun r K h => sx_le h (by omega)
theorem sx_12 {k g d e p B m h v4 : Nat} (hx : sx T n G0 c0 O e p N B G) (h11 : G 56 11 = 3 * (Q.length + m)) (hm : m ≤ 20) (hQ : Q.length + m ≤ 440) (hk : 2 ≤ k) (hn : 10000 < nn) (hB : B + m + 4 < 10000) : wok (dk_141_12 (dk_R nn k) nn (g + 1) G d h (3 * Q.length) v4) (fun _ K => sx T n G0 c0 O e p N (B + m + 2) K) := by
  show wok (dk_141_12b (dk_R nn k) nn (dk_141_12 (dk_R nn k) nn g) G d h (3 * Q.length) v4) _
  unfold dk_141_12b
  exact wok_i (fun _ => sx_96 hx h11 hm hQ hk hn hB) (fun _ => wok_f (sx_ne hx (by decide)) (sx_96 hx h11 hm hQ hk hn hB))
end
