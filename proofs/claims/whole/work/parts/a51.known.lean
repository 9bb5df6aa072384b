/-! ===== a51: names become known (wip/whole2/lawa51.py) ===== -/
section
variable {nn : Nat} {T : Nat → Nat} {n M O : Nat} {G0 : wq_F} {c0 : List (List Nat)} {i t w s nw ns np N : Nat} {off voff ph : Nat → Nat} {cx : Nat → List Nat} {c cb : List Nat} {W : List (Nat × Nat × Nat × Nat)} {L : List (Nat × Nat)} {P Q : List (Nat × Nat × Nat)} {ls cs : List (List Nat)} {F G : wq_F}

variable {f i0 v v0 : Nat}
theorem loc_fin {lv : Nat → Prop} {f' : Nat} (hM : tk_M T n M) (hr : ry T n M i ls t w nw np W L P F) (hc : cy T n G0 c0 O i cs s ns np N Q G) (hb : bz N (at_N off N (off N + v)) voff ph cx (List.replicate v 0 ++ c) np F ls G cs) (hnp : np ≤ 50) (hf : G 62 (N - 1) = f) (h61 : ∀ x, off N ≤ x → x < off N + v → G 61 x = 4294967295) (hnm : ∀ j, j < v → tk_k T n (i0 + 2 * j) = 1 ∧ G 60 (off N + j) < cs.length ∧ cs.getD (G 60 (off N + j)) [] = tk_B T n (tk_pos T n (i0 + 2 * j))) (h14 : v0 + v ≤ F 14 f) (hv : v0 + v ≤ 50) (hc5 : ∀ e ∈ c, e < v0 + 5) (hi0 : i0 + 2 * v ≤ M + 1) (hw : w + v < 14000) (hn : 10000 < nn) (hoff : off (N - 1) ≤ off N) (hh : hg c < 100000) :
    dk_231_34 nn nn F i0 v v0 ((v + 4294967295) % 4294967296) = some (1, (kn (em19 v0 v F) (voff N) i0 v0 v)) ∧ dk_167 nn G (off N) (hg c) = some (0, (rv_up G (off N) v (hg c))) ∧ ry T n M i ls t (w + v) nw np W L P (kn (em19 v0 v F) (voff N) i0 v0 v) ∧ cy T n G0 c0 O i cs s ns np N Q (rv_up G (off N) v (hg c)) ∧ (∃ ph', bz N (at_N off N (off N + v)) (at_N voff N (voff N + v)) ph' cx (lcs v0 v ++ c) np (kn (em19 v0 v F) (voff N) i0 v0 v) ls (rv_up G (off N) v (hg c)) cs ∧ (∀ k, k < voff N → ph' k = ph k) ∧ ∀ j, j < v → ph' (voff N + j) = off N + j) ∧ pj ls cs lv f' cb F G w s nw ns np (List.replicate v 0 ++ c) (kn (em19 v0 v F) (voff N) i0 v0 v) (rv_up G (off N) v (hg c)) (w + v) s nw ns np (lcs v0 v ++ c) [] [] ∧ rm_fr F (kn (em19 v0 v F) (voff N) i0 v0 v) := by
  have hM1 := hM.1
  have hiM := hr.1.2.2.1
  have hw1 : F 0 41 = w := hr.2.1.2.1
  obtain ⟨n1, n2, n3, n4, n5, n6, n7, n8, n9⟩ := hb.1.1
  rw [at_N_is] at n7 n9
  have vle : voff N ≤ off N := pq_vo hb.1 at_N_is h61
  have hlb := lsb_len hb.2.2.2.2.2.2.2 hr.1.2.2.2.2.2.2
  have vr : ∀ j, j < v → F 11 (i0 + 2 * j) < ls.length ∧ ls.getD (F 11 (i0 + 2 * j)) [] = tk_B T n (tk_pos T n (i0 + 2 * j)) := fun j hj => by
    have y := (hr.1.2.2.2.2.2.1 (i0 + 2 * j) (by omega)).2.2.2 (Or.inl (hnm j hj).1)
    exact ⟨y.1, y.2.1⟩
  have ec : ∀ d j, ¬ (20 ≤ d ∧ d ≤ 23 ∧ w ≤ j ∧ j < w + v) → ¬ (d = 0 ∧ j = 41) → em19 v0 v F d j = F d j := fun d j a b => em19_c (by rw [hw1]; exact a) b
  have r1 : ry T n M i ls t (w + v) nw np W L P (em19 v0 v F) := ry_em19 hr
  have b1 : bz N (at_N off N (off N + v)) voff ph cx (List.replicate v 0 ++ c) np (em19 v0 v F) ls G cs := bz_F hb ⟨fun d hd => funext fun j => ec d j (by omega) (by omega), ec 0 50 (by omega) (by omega), ec 0 53 (by omega) (by omega)⟩
  have ff1 : rm_fr F (em19 v0 v F) := rm_fr_em19 (rm_fr_refl _)
  have ea : ∀ x, x < v → em19 v0 v F 20 (w + x) = 19 ∧ em19 v0 v F 21 (w + x) = v0 + (v - 1 - x) := fun x hx => by
    have y := em19_at (v0 := v0) (m := v) (x := x) (F := F) hx
    rw [hw1] at y
    exact y
  have e50 : em19 v0 v F 0 50 = voff N := (ec 0 50 (by omega) (by omega)).trans n8
  have d34 := dkL_231 (nn := nn) (i0 := i0) (cnt := v) (v0 := v0) v nn F (by omega) hv (by omega) (by omega)
  have d63 := dkL_63 (nn := nn) (i0 := i0) (cnt := v) (v0 := v0) (b := voff N) (F := em19 v0 v F) (by omega) (by omega) (by omega) (fun j hj => by rw [ec 11 _ (by omega) (by omega)]; have := (vr j hj).1; omega) nn 0 (Nat.zero_le _) (by omega)
  rw [kn_0 e50] at d63
  have d167 := dkS_167 (nn := nn) (G := G) (a := off N) (m := v) (sl := hg c) n7 n9 (by omega) hn
  have kc : ∀ d j, ¬ ((d = 29 ∨ d = 30) ∧ voff N ≤ j ∧ j < voff N + v) → ¬ (d = 0 ∧ (j = 50 ∨ j = 41)) → ¬ (20 ≤ d ∧ d ≤ 23 ∧ w ≤ j ∧ j < w + v) → (kn (em19 v0 v F) (voff N) i0 v0 v) d j = F d j := fun d j a b e => by
    rw [kn_c a (by omega), ec d j e (by omega)]
  have r2 : ry T n M i ls t (w + v) nw np W L P (kn (em19 v0 v F) (voff N) i0 v0 v) := ry_x r1 (fun d j z => kn_c (fun y => z (by unfold ry_n; omega)) (fun y => z (by unfold ry_n; omega)))
  have c2 : cy T n G0 c0 O i cs s ns np N Q (rv_up G (off N) v (hg c)) := cy_x hc (fun d j z _ => rv_ne (fun y => z (by unfold cy_n; omega))) (fun j hj => by rw [rv_ne (by omega)]; exact hc.2.2.2.2.1 j hj) (fun l hl => by rw [rv_ne (by omega)]; exact hc.2.2.2.2.2 l hl)
  have ff2 : rm_fr F (kn (em19 v0 v F) (voff N) i0 v0 v) := rm_fr_x ff1 (fun d j a b e => kn_c (by omega) (by omega)) ⟨kn_c (by omega) (by omega), kn_c (by omega) (by omega), kn_c (by omega) (by omega)⟩
  refine ⟨d34.trans d63, d167, r2, c2, ?_, ⟨⟨by omega, Nat.le_refl _, Nat.le_refl _, Nat.le_refl _, Nat.le_refl _⟩, ka_x (fun d j q => kc d j (by omega) (by omega) (by omega)), kb_x (fun d j q => rv_ne (by omega)), ⟨fun j hj => absurd hj (List.not_mem_nil), fun j hj => absurd hj (List.not_mem_nil)⟩, fun H J nm X wb sb ha hb2 _ _ _ e6 => ?_⟩, ff2⟩
  · refine bz_reveal (a := off N) (m := v) (sl := hg c) (nr := fun j => F 11 (i0 + 2 * j)) (sr := fun j => v0 + j) (d := lcs v0 v ++ c) b1 ⟨?_, ?_⟩ (by omega) (fun x a b => ?_) (fun j hj => ?_) ⟨fun j hj => ?_, fun x y a b => by show ¬ v0 + x = v0 + y; omega, fun j k hj a b => ?_⟩ ⟨?_, ?_, fun d hd => ?_, fun k hk => ⟨?_, ?_⟩, fun j hj => ⟨?_, ?_⟩⟩ ⟨fun d h1 h2 => ?_, fun x hx => ?_, fun j hj => ?_⟩ (fun l hl => ?_) (fun k a b z => ?_) (fun j hj => ?_) (fun e he => ?_)
    · rw [at_N_ne (by omega)]
      exact hoff
    · rw [at_N_is]
    · rw [at_N_is] at b
      exact h61 x a b
    · have y := vr j hj
      have z := hnm j hj
      exact ⟨y.1, z.2.1, y.2.trans z.2.2.symm⟩
    · rw [ec 14 _ (by omega) (by omega), hf]
      show v0 + j < F 14 f
      omega
    · rw [ec 30 _ (by omega) (by omega)]
      have y := hb.2.2.2.2.1 (N - 1) k (by omega) a (by rw [show N - 1 + 1 = N by omega]; exact b)
      rw [cxf_t (by omega)] at y
      intro z
      have y2 := cx_at_mem y
      rw [z] at y2
      rcases List.mem_append.mp y2 with x | x
      · have := rep_lt x
        omega
      · have := hc5 _ x
        omega
    · exact kn_c (by omega) (by omega)
    · exact kn_50
    · exact funext fun j => kn_c (by omega) (by omega)
    · exact kn_c (by omega) (by omega)
    · exact kn_c (by omega) (by omega)
    · rw [kn_29 hj, ec 11 _ (by omega) (by omega)]
    · exact kn_30 hj
    · exact funext fun j => rv_ne (by omega)
    · exact rv_ne (by omega)
    · exact rv_at hj
    · rw [rv_ne (by omega)]
      have y := hb.2.2.2.1 l hl
      by_cases z : l + 1 = N
      · rw [cxf_t z] at y ⊢
        rw [y, hg_app, hg_app, hg_rep, hg_lcs]
      · rw [cxf_f z] at y ⊢
        exact y
    · exact cx_at_up (cx_at_dn (a := List.replicate v 0) (fun e he => by rw [rep_lt he]; decide) z) _
    · exact cx_at_app (cx_lcs hj)
    · rw [ec 14 _ (by omega) (by omega), hf]
      rcases List.mem_append.mp he with x | x
      · have := (mem_lcs x).2
        omega
      · have := hc5 _ x
        omega
  · rw [jl_nil] at ha
    refine sg_19 hc5 v w [] (fun x hx => ?_) hv (fun e he => absurd he (List.not_mem_nil)) e6
    have y := ea x hx
    rw [ha.1 20 (w + x) (by decide) (by decide) (by omega) (by omega), ha.1 21 (w + x) (by decide) (by decide) (by omega) (by omega), kn_c (by omega) (by omega), kn_c (by omega) (by omega)]
    exact y
/-- all of it: names read, values made, names known -/
theorem loc_done {F1 K1 F4 K4 : wq_F} {i1 i4 w4 s4 nw4 ns4 np4 : Nat} {cs1 ls4 cs4 : List (List Nat)} {Jr0 Jc0 : List Nat} (hM : tk_M T n M) (hn : 10000 < nn) (hb : bz N off voff ph cx c np F ls G cs) (hnp : np ≤ 50) (hbo : bo N L F G w s Jr0 Jc0) (hf : G 62 (N - 1) = f) (hv0 : F 14 f = v0) (hp : nq T n N off voff ph cx c np i0 v F1 ls K1 cs1) (h14 : F1 14 f = v0 + v) (hs1 : st_pre cs cs1) (xf1 : nm_f f F F1) (xg1 : nm_g f (off N) G K1) (hi : i ≤ i1) (hi0 : i0 + 2 * v ≤ M + 1) (E4 : eg T n M G0 c0 O N (at_N off N (off N + v)) voff ph cx cb F1 K1 i1 ls cs1 w s nw ns np c t W L P Q F4 K4 i4 ls4 cs4 w4 s4 nw4 ns4 np4 (List.replicate v 0 ++ c)) (hw4 : w4 + v < 14000) (hh : hg c < 100000) : ∃ H K ph', dk_231_34 nn nn F4 i0 v v0 ((v + 4294967295) % 4294967296) = some (1, H) ∧ dk_167 nn K4 (off N) (hg c) = some (0, K) ∧ rm_fr F4 H ∧ ge T n M G0 c0 O N cx cb F G i ls cs w s nw ns np c off voff ph L Jr0 Jc0 t W P Q H K i4 ls4 cs4 (w4 + v) s4 nw4 ns4 np4 (lcs v0 v ++ c) (at_N off N (off N + v)) (at_N voff N (voff N + v)) ph' L [] [] ∧ lo N voff c (at_N voff N (voff N + v)) ph' (lcs v0 v ++ c) K := by
  have hN := hb.1.1
  have h62 := hb.2.2.2.2.2.1
  have hfr := bz_fr hb
  rw [hf, hv0] at hfr
  have hoff := (hb.1.2.1 (N - 1) (by omega)).1
  rw [show N - 1 + 1 = N by omega] at hoff
  obtain ⟨_, _, _, ⟨n7, n8⟩, _⟩ := nm_n hb hnp hf
  have k162 : ∀ l, K1 62 l = G 62 l := fun l => xg1 62 l (by omega) (by omega) (by omega) (by omega) (by omega)
  obtain ⟨_, _, _, ⟨m7, m8⟩, _⟩ := nm_n hp.1 hnp ((k162 _).trans hf)
  have g19 : ∀ x, G 19 x ≤ K1 19 x := fun x => by
    by_cases z : x = f
    · rw [z]
      omega
    · exact Nat.le_of_eq (xg1 19 x (by omega) (by omega) (by omega) (by omega) (by omega)).symm
  have P1 : pj ls cs1 (lvl N G) (G 62 (N - 1)) cb F G w s nw ns np c F1 K1 w s nw ns np c [] [] := pj_y (fun d j q => xf1 d j (by omega) (by omega)) (fun d j q => xg1 d j (by omega) (by omega) (by omega) (by omega) (by omega)) g19
  obtain ⟨r4, c4, b4, p4, ⟨t1, t2, t3⟩, t4, t5⟩ := E4
  rw [lvl_eq (fun l _ => k162 l), k162 (N - 1)] at p4
  have hfN : f < np := by rw [← hf]; exact h62 (N - 1) (by omega)
  have k462 : ∀ l, l < N → K4 62 l = G 62 l := fun l hl => (t3.1 l hl).1.trans (k162 l)
  obtain ⟨_, _, _, ⟨o7, o8⟩, _⟩ := nm_n b4 t5 ((k462 _ (by omega)).trans hf)
  have q19 := (p4.2.2.1.2.2.2 f hfN).2.2
  have t32 := t3.2
  rw [at_N_is] at t32
  obtain ⟨d34, d167, r5, c5, ⟨ph', b5, hp1, hp2⟩, p5, ff5⟩ := loc_fin (nn := nn) (lv := lvl N G) (f' := G 62 (N - 1)) (cb := cb) (i0 := i0) (v0 := v0) hM r4 c4 b4 t5 ((k462 _ (by omega)).trans hf) (fun x a b => (t32 x b 61 (Or.inr rfl)).trans (hp.2.1 x a b)) (fun j hj => by
    obtain ⟨a1, a2, a3⟩ := hp.2.2 j hj
    rw [t32 (off N + j) (by omega) 60 (Or.inl rfl)]
    exact ⟨a1, Nat.lt_of_lt_of_le a2 t2.1, by rw [t2.2 _ a2]; exact a3⟩) (by omega) (by omega) hfr hi0 hw4 hn hoff hh
  have hlv : ∀ g, np ≤ g → ¬ lvl N G g := fun g hg ⟨l, l1, l2⟩ => by have := h62 l l1; omega
  have PJ := pj_t (pj_t P1 p4 t1.1 t2 hlv (by rw [hf]; exact hfN)) p5 (st_pre_refl _) (st_pre_refl _) hlv (by rw [hf]; exact hfN)
  have ru : ∀ d j, ¬ d = 61 → rv_up K4 (off N) v (hg c) d j = K4 d j := fun d j q => rv_ne (by omega)
  have kaA := PJ.2.1
  have kbA := PJ.2.2.1
  have hl4 := PJ.1
  refine ⟨_, _, ph', d34, d167, ff5, ⟨r5, c5, b5, PJ, ⟨t1, st_pre_trans hs1 t2, ⟨fun l hl => ?_, fun l hl => ?_, fun x hx e6 h6 => ?_⟩⟩, ⟨by omega, t5⟩, ⟨fun l hl => ⟨at_N_ne (by omega), at_N_ne (by omega)⟩, by rw [at_N_is]; omega, by rw [at_N_is]; omega, hp1, fun k a b => ?_⟩, ?_, lt2_refl⟩, lcs v0 v, rfl, fun e he => by have := (mem_lcs he).1; omega, by rw [lcs_len, at_N_is]; omega, fun k a b => ?_, fun z => fs_lcs_c z hfr⟩
  · rw [ru 62 l (by decide)]
    exact k462 l hl
  · rw [ru 65 l (by decide), (t3.1 l (by omega)).2]
    exact xg1 65 l (by omega) (by omega) (by omega) (by omega) (by omega)
  · rw [rv_ne (by omega), t32 x (by omega) e6 h6]
    exact xg1 e6 x (by omega) (by omega) (by omega) (by omega) (by omega)
  · rw [at_N_is] at b
    obtain ⟨j, rfl⟩ : ∃ j, k = voff N + j := ⟨k - voff N, by omega⟩
    rw [hp2 j (by omega)]
    omega
  · refine bo_x hbo (fun j hj => kaA.1 21 j (by decide) (by decide) hj) (fun j hj => kbA.1 14 j (by decide) (by decide) hj) ?_ hl4.1 hl4.2.1
    rw [ru 65 _ (by decide), (t3.1 (N - 1) (by omega)).2]
    exact xg1 65 _ (by omega) (by omega) (by omega) (by omega) (by omega)
  · rw [at_N_is] at b
    obtain ⟨j, rfl⟩ : ∃ j, k = voff N + j := ⟨k - voff N, by omega⟩
    rw [hp2 j (by omega), rv_at (by omega)]
    omega
end
