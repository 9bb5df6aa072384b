/-! ===== 51: feed and wipe in every state (by wip/whole2/law51.py) ===== -/
theorem wl_FX.fed {C : Type} {τ : wl_St C} {q1 : Nat} {fs : List Value} (n : Nat) (tx : Nat → Nat) (h : wl_FX τ q1 fs) : wl_FX (n, tx, τ.2.2.1, τ.2.2.2.1, τ.2.2.2.2.1, (none : Option C)) q1 ((fs.set 8 (.int (nI n))).set 9 (.int 0)) := by
  obtain ⟨h0, h1, h2, h3, h4, h5⟩ := h
  exact ⟨by rw [List.length_set, List.length_set]; exact h0, by rw [List.getElem?_set_ne (by decide), List.getElem?_set_ne (by decide)]; exact h1, by rw [List.getElem?_set_ne (by decide)]; exact List.getElem?_set_self (by omega), List.getElem?_set_self (by rw [List.length_set]; omega), by rw [List.getElem?_set_ne (by decide), List.getElem?_set_ne (by decide)]; exact h4, by rw [List.getElem?_set_ne (by decide), List.getElem?_set_ne (by decide)]; exact h5⟩
theorem wl_FM.fed {C : Type} {τ : wl_St C} {th : Int32} {q1 : Nat} {fs : List Value} (n : Nat) (tx : Nat → Nat) (h : wl_FM τ th q1 fs) : wl_FM (n, tx, τ.2.2.1, τ.2.2.2.1, τ.2.2.2.2.1, (none : Option C)) 0 q1 (((fs.set 0 (.int 0)).set 2 (.int (nI n))).set 3 (.int 0)) := by
  obtain ⟨h0, h1, h2, h3, h4, h5, h6, h7⟩ := h
  exact ⟨by rw [List.length_set, List.length_set, List.length_set]; exact h0, by rw [List.getElem?_set_ne (by decide), List.getElem?_set_ne (by decide)]; exact List.getElem?_set_self (by omega), by rw [List.getElem?_set_ne (by decide), List.getElem?_set_ne (by decide), List.getElem?_set_ne (by decide)]; exact h2, by rw [List.getElem?_set_ne (by decide)]; exact List.getElem?_set_self (by rw [List.length_set]; omega), List.getElem?_set_self (by rw [List.length_set, List.length_set]; omega), by rw [List.getElem?_set_ne (by decide), List.getElem?_set_ne (by decide), List.getElem?_set_ne (by decide)]; exact h5, by rw [List.getElem?_set_ne (by decide), List.getElem?_set_ne (by decide), List.getElem?_set_ne (by decide)]; exact h6, by rw [List.getElem?_set_ne (by decide), List.getElem?_set_ne (by decide), List.getElem?_set_ne (by decide)]; exact h7⟩
theorem wl_K_one {D : va_G} {t : wl_Y} {t0 : Nat} {q : ClassId × FieldType} {U : State} (h : va_K D al_cl t U) (ht : t[t0]? = some q) : va_K D al_cl ([q] ++ t) U :=
  ⟨h.1, fun k x hk => by
    cases k with
    | zero => cases hk; exact h.2 t0 _ ht
    | succ k => exact h.2 k x hk⟩
section WLF
variable {C : Type} {GX GM : ev_KA → Option C → List Value → wl_Y → va_W → Prop} {l : Launch} {D : va_G} {ka : ev_KA}
set_option maxHeartbeats 1000000 in
theorem ws_1 (hGX : wl_GXok GX) (hGM : wl_GMok GM) {x0 m0 : Nat} (τ : wl_St C) (y1 y2 y3 : Int32) : ∃ (τ' : wl_St C) (mc ms : Nat), (τ'.2.2.2.2.2 = none ∨ τ' = τ) ∧ mc ≤ 1 ∧ ms ≤ 6 ∧ wl_T1 (wl_St C) l D ka x0 m0 (wl_KX GX ka) (wl_KM GM ka) τ τ' y1 y2 y3 mc ms := by
  have hX : wl_M l D ka ly_X11_wipe (lw_w ly_X11_wipe prog_1_method_3_code 2 (some .int)) 1900 80000 (wl_KX GX ka τ x0) [.ref x0] (fun v t w => v = some (.int (nI τ.1)) ∧ wl_KX GX ka (0, τ.2.1, τ.2.2.1, τ.2.2.2.1, τ.2.2.2.2.1, none) x0 t w) 0 0 := by
    intro tys ws sz h0
    obtain ⟨q1, cB, f, fs, wr, t0, rfl, ht, hF, hf, hn, hg⟩ := h0
    refine wl_grow (wl_fr_i (ka := ka) (t1 := []) (tr := tys) (w1 := [(x0, .inr (3, fs))]) (wr := (q1, .inl (cB, 6000, .inl f)) :: wr) (w2 := fun _ => [(x0, .inr (3, (fs.set 8 (.int 0)).set 9 (.int 0)))]) (t2 := fun _ => []) (rm' := { frames := 1900, cells := 0, slots := 0, locals := 80000 }) (uw_X11_wipe l D x0 sz fs hF.1 hF.2.2.1) ⟨Nat.le_of_ble_eq_true rfl, Nat.le_refl _, Nat.le_refl _, Nat.le_of_ble_eq_true rfl⟩ (Nat.le_refl _) (Nat.le_refl _)) (fun w hw => hw) ⟨Nat.le_refl _, Nat.le_refl _, Nat.le_refl _, Nat.le_refl _⟩ (Nat.le_refl _) (Nat.le_refl _) (fun _ h => h) (fun a s hp => hp) (fun a s o t _ hq => ?_)
    obtain ⟨⟨v, t3, w3, ho, ⟨r, u, rfl, rfl, rfl, rfl⟩, hP, hK, hD⟩, hFr⟩ := hq
    exact ⟨⟨_, _, _, ho, ⟨rfl, q1, cB, f, _, wr, t0, rfl, ht, hF.fed 0 τ.2.1, fun i hi => absurd hi (Nat.not_lt_zero i), Nat.zero_le _, hGX.1 _ _ _ _ _ 9 _ (by decide) (hGX.1 _ _ _ _ _ 8 _ (by decide) (hGX.2 _ _ _ _ _ hg))⟩, hP, hK, hD⟩, hFr⟩
  have hM : wl_M l D ka ly_X12_wipe (lw_w ly_X12_wipe prog_14_method_12_code 2 (some .int)) 1900 80000 (wl_KM0 (wl_KM GM ka) τ m0) [.ref m0] (fun v t w => v = some (.int (nI τ.1)) ∧ wl_KM0 (wl_KM GM ka) (0, τ.2.1, τ.2.2.1, τ.2.2.2.1, τ.2.2.2.2.1, none) m0 t w) 0 0 := by
    intro tys ws sz h0
    obtain ⟨th0, q1, cB, f, fs, wr, t0, rfl, ht, hF, hf, hn, hg⟩ := h0
    have hF9 := hF
    obtain ⟨g0, g1, g2, g3, g4, g5, g6, g7⟩ := hF9
    refine wl_grow (wl_fr_i (ka := ka) (t1 := []) (tr := tys) (w1 := [(m0, .inr (0, fs))]) (wr := (q1, .inl (cB, 6000, .inl f)) :: wr) (w2 := fun _ => [(m0, .inr (0, ((fs.set 0 (.int 0)).set 2 (.int 0)).set 3 (.int 0)))]) (t2 := fun _ => []) (rm' := { frames := 1900, cells := 0, slots := 0, locals := 80000 }) (um_X12_wipe l D m0 sz fs g0 g1 g3 g4 g5 g6 g7) ⟨Nat.le_of_ble_eq_true rfl, Nat.le_refl _, Nat.le_refl _, Nat.le_of_ble_eq_true rfl⟩ (Nat.le_refl _) (Nat.le_refl _)) (fun w hw => hw) ⟨Nat.le_refl _, Nat.le_refl _, Nat.le_refl _, Nat.le_refl _⟩ (Nat.le_refl _) (Nat.le_refl _) (fun _ h => h) (fun a s hp => hp) (fun a s o t _ hq => ?_)
    obtain ⟨⟨v, t3, w3, ho, ⟨r, u, rfl, rfl, rfl, rfl⟩, hP, hK, hD⟩, hFr⟩ := hq
    exact ⟨⟨_, _, _, ho, ⟨rfl, 0, q1, cB, f, _, wr, t0, rfl, ht, hF.fed 0 τ.2.1, fun i hi => absurd hi (Nat.not_lt_zero i), Nat.zero_le _, hGM.1 _ _ _ _ _ 3 _ (by decide) (hGM.1 _ _ _ _ _ 2 _ (by decide) (hGM.1 _ _ _ _ _ 0 _ (by decide) (hGM.2 _ _ _ _ _ hg)))⟩, hP, hK, hD⟩, hFr⟩
  exact ⟨_, 0, 0, Or.inl rfl, by decide, by decide, nI τ.1, 0, 0, 0, 0, rfl, rfl, hX, hM⟩
/-- the text with more bytes -/
def wl_fed (n : Nat) (tx : Nat → Nat) (a : Int64) : Nat → Nat := fun i => if i < n then tx i else wl_byte a (i - n)
set_option maxHeartbeats 1000000 in
theorem ws_0 (hGX : wl_GXok GX) (hGM : wl_GMok GM) {x0 m0 : Nat} (τ : wl_St C) (hst : l.stackTraces = false) (y1 y2 y3 : Int32) : ∃ (τ' : wl_St C) (mc ms : Nat), (τ'.2.2.2.2.2 = none ∨ τ' = τ) ∧ mc ≤ 1 ∧ ms ≤ 6 ∧ wl_T0 (wl_St C) l D ka x0 m0 (wl_KX GX ka) (wl_KM GM ka) τ τ' y1 y2 y3 mc ms := by
  by_cases hn6 : τ.1 ≤ 6000
  · by_cases hbad : y1 < 1 ∨ 8 < y1 ∨ ¬ nI τ.1 + y1 ≤ 6000
    · have hX := ww_feed_bad (l := l) (D := D) (ka := ka) (x0 := x0) (KX := wl_KX GX ka τ) (K1 := wl_KX GX ka τ) (mc := 1) (ms := 6) (wl_KX_Rc τ) y1 (wl_long y2 y3) (wl_ro_x (rm := { frames := 8, cells := 1, slots := 6, locals := 150 }) (Qc := fun sz => va_Qi (S := Unit) (fun _ _ => False) (fun _ _ => True) (fun q => sz ≤ q)) ⟨Nat.le_of_ble_eq_true rfl, Nat.le_refl _, Nat.le_refl _, Nat.le_of_ble_eq_true rfl⟩ (Nat.le_refl _) (Nat.le_refl _) (fun sz a s o t hq => by obtain ⟨⟨r, u, -, hf, -⟩, -⟩ := hq; exact hf) (fun tys ws sz h => by
        obtain ⟨q1, cB, f, fs, wr, t0, rfl, ht, ⟨g0, g1, g2, g3, g4, g5⟩, -⟩ := h
        exact ⟨0, fs, rfl, ut_X11_feed l hst D x0 sz fs g2 g3 g4 g5 y1 (wl_long y2 y3) hbad⟩))
      have hM := ws_Ri (l := l) (D := D) (ka := ka) (GM := GM) (τ := τ) (th := 1) (m0 := m0) hGM (rm := { frames := 2, cells := 0, slots := 0, locals := 80 }) ⟨Nat.le_of_ble_eq_true rfl, Nat.le_refl _, Nat.le_refl _, Nat.le_of_ble_eq_true rfl⟩ (fun fs q1 sz tv hF => by
        obtain ⟨g0, g1, g2, g3, g4, g5, g6, g7⟩ := hF
        exact um_X12_feed_bad l D m0 sz fs g0 g1 g3 g4 g5 g6 g7 y1 (wl_long y2 y3) hbad)
      exact ⟨τ, 1, 6, Or.inr rfl, Nat.le_refl _, Nat.le_refl _, 1, 0, _, 1, 6, 0, 0, rfl, rfl, fun z => absurd z (by decide), hX, hM⟩
    · obtain ⟨N, hN8, rfl⟩ : ∃ N : Nat, N ≤ 8 ∧ y1 = nI N := nI_of2 (x := y1) (M := 8) (n := 8) (by decide) (fun h => hbad (Or.inl (Int32.lt_trans h (by decide)))) (Int32.not_lt.mp (fun h => hbad (Or.inr (Or.inl h))))
      have hN1 : 1 ≤ N := by
        rcases Nat.eq_zero_or_pos N with h | h
        · subst h
          exact absurd (Or.inl (by decide)) hbad
        · exact h
      have hnN : τ.1 + N ≤ 6000 := by
        have h1 : nI τ.1 + nI N ≤ 6000 := Classical.byContradiction fun h => hbad (Or.inr (Or.inr h))
        rw [nI_add, show (6000 : Int32) = nI 6000 from rfl, nI_leI (by omega) (by omega)] at h1
        exact h1
      have hX : wl_M l D ka ly_X11_feed (lw_w ly_X11_feed prog_1_method_2_code 5 (some .int)) 1900 80000 (wl_KX GX ka τ x0) [.ref x0, .int (nI N), .long (wl_long y2 y3)] (fun v t w => v = some (.int (nI (τ.1 + N))) ∧ wl_KX GX ka (τ.1 + N, wl_fed τ.1 τ.2.1 (wl_long y2 y3), τ.2.2.1, τ.2.2.2.1, τ.2.2.2.2.1, none) x0 t w) 0 0 := by
        intro tys ws sz h0
        obtain ⟨q1, cB, f, fs, wr, t0, rfl, ht, hF, hf, hn, hg⟩ := h0
        refine wl_grow (wl_fr_i (ka := ka) (t1 := [(cB, .byte)]) (tr := tys) (w1 := [(x0, .inr (3, fs)), (q1, .inl (cB, 6000, .inl f))]) (wr := wr) (w2 := fun u => [(x0, .inr (3, (fs.set 8 (.int (nI (τ.1 + N)))).set 9 (.int 0))), (q1, .inl (cB, 6000, .inl u))]) (t2 := fun _ => [(cB, .byte)]) (rm' := { frames := 1900, cells := 0, slots := 0, locals := 80000 }) (uf_X11_feed l D x0 q1 sz cB f fs hF.1 hF.2.1 τ.1 hF.2.2.1 N hN1 hN8 hnN (wl_long y2 y3)) ⟨Nat.le_of_ble_eq_true rfl, Nat.le_refl _, Nat.le_refl _, Nat.le_of_ble_eq_true rfl⟩ (Nat.le_refl _) (Nat.le_refl _)) (fun w hw => hw) ⟨Nat.le_refl _, Nat.le_refl _, Nat.le_refl _, Nat.le_refl _⟩ (Nat.le_refl _) (Nat.le_refl _) (fun _ h => h) (fun a s hp => ?_) (fun a s o t _ hq => ?_)
        · obtain ⟨e1, e2, e3, e4, e5, e6⟩ := hp
          exact ⟨e1, e2, e3, wl_K_one e4 ht, e5, e6⟩
        · obtain ⟨⟨v, t3, w3, ho, ⟨r, u, rfl, ⟨rfl, hu1, hu2⟩, rfl, rfl⟩, hP, hK, hD⟩, hFr⟩ := hq
          refine ⟨⟨_, tys, _, ho, ⟨rfl, q1, cB, u, _, wr, t0, rfl, ht, hF.fed (τ.1 + N) (wl_fed τ.1 τ.2.1 (wl_long y2 y3)), fun i hi => ?_, hnN, hGX.1 _ _ _ _ _ 9 _ (by decide) (hGX.1 _ _ _ _ _ 8 _ (by decide) (hGX.2 _ _ _ _ _ hg))⟩, hP, wl_K_r (t1 := [(cB, .byte)]) hK, hD⟩, hFr⟩
          show u i = nI (ev_b8 (wl_fed τ.1 τ.2.1 (wl_long y2 y3) i)) ∧ wl_fed τ.1 τ.2.1 (wl_long y2 y3) i < 256
          unfold wl_fed
          by_cases hlt : i < τ.1
          · rw [if_pos hlt, hu1 i hlt]; exact hf i hlt
          · rw [if_neg hlt]
            have h2 := hu2 (i - τ.1) (by have : i < τ.1 + N := hi; omega)
            rw [show τ.1 + (i - τ.1) = i by omega] at h2
            exact ⟨h2, wl_byte_lt _ _⟩
      have hM : wl_M l D ka ly_X12_feed (lw_w ly_X12_feed prog_14_method_11_code 5 (some .int)) 1900 80000 (wl_KM0 (wl_KM GM ka) τ m0) [.ref m0, .int (nI N), .long (wl_long y2 y3)] (fun v t w => v = some (.int (nI (τ.1 + N))) ∧ wl_KM GM ka (τ.1 + N, wl_fed τ.1 τ.2.1 (wl_long y2 y3), τ.2.2.1, τ.2.2.2.1, τ.2.2.2.2.1, none) 0 m0 t w) 0 0 := by
        intro tys ws sz h0
        obtain ⟨th0, q1, cB, f, fs, wr, t0, rfl, ht, hF, hf, hn, hg⟩ := h0
        refine wl_grow (wl_fr_i (ka := ka) (t1 := [(cB, .int)]) (tr := tys) (w1 := [(m0, .inr (0, fs)), (q1, .inl (cB, 6000, .inl f))]) (wr := wr) (w2 := fun u => [(m0, .inr (0, ((fs.set 0 (.int 0)).set 2 (.int (nI (τ.1 + N)))).set 3 (.int 0))), (q1, .inl (cB, 6000, .inl u))]) (t2 := fun _ => [(cB, .int)]) (rm' := { frames := 1900, cells := 0, slots := 0, locals := 80000 }) (uf_X12_feed l D m0 q1 sz cB f fs hF.1 hF.2.2.1 th0 hF.2.1 τ.1 hF.2.2.2.1 N hN1 hN8 hnN (wl_long y2 y3)) ⟨Nat.le_of_ble_eq_true rfl, Nat.le_refl _, Nat.le_refl _, Nat.le_of_ble_eq_true rfl⟩ (Nat.le_refl _) (Nat.le_refl _)) (fun w hw => hw) ⟨Nat.le_refl _, Nat.le_refl _, Nat.le_refl _, Nat.le_refl _⟩ (Nat.le_refl _) (Nat.le_refl _) (fun _ h => h) (fun a s hp => ?_) (fun a s o t _ hq => ?_)
        · obtain ⟨e1, e2, e3, e4, e5, e6⟩ := hp
          exact ⟨e1, e2, e3, wl_K_one e4 ht, e5, e6⟩
        · obtain ⟨⟨v, t3, w3, ho, ⟨r, u, rfl, ⟨rfl, hu1, hu2⟩, rfl, rfl⟩, hP, hK, hD⟩, hFr⟩ := hq
          refine ⟨⟨_, tys, _, ho, ⟨rfl, q1, cB, u, _, wr, t0, rfl, ht, hF.fed (τ.1 + N) (wl_fed τ.1 τ.2.1 (wl_long y2 y3)), fun i hi => ?_, hnN, hGM.1 _ _ _ _ _ 3 _ (by decide) (hGM.1 _ _ _ _ _ 2 _ (by decide) (hGM.1 _ _ _ _ _ 0 _ (by decide) (hGM.2 _ _ _ _ _ hg)))⟩, hP, wl_K_r (t1 := [(cB, .int)]) hK, hD⟩, hFr⟩
          show u i = nI (wl_fed τ.1 τ.2.1 (wl_long y2 y3) i) ∧ wl_fed τ.1 τ.2.1 (wl_long y2 y3) i < 256
          unfold wl_fed
          by_cases hlt : i < τ.1
          · rw [if_pos hlt, hu1 i hlt]; exact hf i hlt
          · rw [if_neg hlt]
            have h2 := hu2 (i - τ.1) (by have : i < τ.1 + N := hi; omega)
            rw [show τ.1 + (i - τ.1) = i by omega] at h2
            exact ⟨h2, wl_byte_lt _ _⟩
      have hW := ww_feed_ok (l := l) (D := D) (ka := ka) (x0 := x0) (KX := wl_KX GX ka τ) (K1 := wl_KX GX ka (τ.1 + N, wl_fed τ.1 τ.2.1 (wl_long y2 y3), τ.2.2.1, τ.2.2.2.1, τ.2.2.2.2.1, none)) (mc := 0) (ms := 0) (r := nI (τ.1 + N)) (wl_KX_Rc τ) (nI N) (wl_long y2 y3) hX
      exact ⟨_, 0, 0, Or.inl rfl, by decide, by decide, 0, _, nI (τ.1 + N), 0, 0, 0, 0, rfl, rfl, fun _ => rfl, hW, hM⟩
  · have hX : wl_M l D ka ly_X11_feed (lw_w ly_X11_feed prog_1_method_2_code 5 (some .int)) 1900 80000 (wl_KX GX ka τ x0) [.ref x0, .int y1, .long (wl_long y2 y3)] (fun v t w => v = some (.int 0) ∧ wl_KX GX ka τ x0 t w) 0 0 := by
      intro tys ws sz h0
      obtain ⟨q1, cB, f, fs, wr, t0, rfl, ht, hF, hf, hn, hg⟩ := h0
      exact absurd hn hn6
    have hM : wl_M l D ka ly_X12_feed (lw_w ly_X12_feed prog_14_method_11_code 5 (some .int)) 1900 80000 (wl_KM0 (wl_KM GM ka) τ m0) [.ref m0, .int y1, .long (wl_long y2 y3)] (fun v t w => v = some (.int 0) ∧ wl_KM GM ka τ 0 m0 t w) 0 0 := by
      intro tys ws sz h0
      obtain ⟨th0, q1, cB, f, fs, wr, t0, rfl, ht, hF, hf, hn, hg⟩ := h0
      exact absurd hn hn6
    have hW := ww_feed_ok (l := l) (D := D) (ka := ka) (x0 := x0) (KX := wl_KX GX ka τ) (K1 := wl_KX GX ka τ) (mc := 0) (ms := 0) (r := 0) (wl_KX_Rc τ) y1 (wl_long y2 y3) hX
    exact ⟨τ, 0, 0, Or.inr rfl, by decide, by decide, 0, _, 0, 0, 0, 0, 0, rfl, rfl, fun _ => rfl, hW, hM⟩
end WLF
