/-! ===== 52: the system, out of compile's step and of the calls where something is compiled (by wip/whole2/law52.py) ===== -/
set_option maxRecDepth 100000 in
theorem wl_m56 {ka : ev_KA} {tys : List (ClassId × FieldType)} {q : Nat} {l2 : List Nat} {ws : va_W} (hM : ev_M ka "TableTongue$Part" tys (q :: l2) al_h19 ws) : ∃ fs : List Value, ws[0]? = some (q, .inr (0, fs)) ∧ fs[5]? = some (.int 0) ∧ fs[6]? = some (.int 0) := by
  obtain ⟨a0, h0, z5, z6⟩ : ∃ a0 : Nat, al_h19[0]? = some (0, 160, a0) ∧ ev_at a0 5 = 0 ∧ ev_at a0 6 = 0 := ⟨_, rfl, by decide +kernel, by decide +kernel⟩
  obtain ⟨p0, e0, k1, k2, k3⟩ := hM.2.2 0 _ h0
  cases k1
  rcases k3 with ⟨-, fs, v1, v2, v3⟩ | ⟨y, -⟩ | ⟨y, -⟩ | ⟨y, -⟩
  · have hi : ∀ j x, j < 160 → ev_at a0 j = x → x < 4294967296 → fs[j]? = some (.int (nI x)) := by
      intro j x hj hx hlt
      obtain ⟨v, g1, g2⟩ := v3 j hj
      have g2 : ev_v ka (q :: l2) (ev_at a0 j) v := g2
      rw [hx] at g2
      obtain ⟨rfl, -⟩ := g2.i (Nat.blt_eq.mpr hlt)
      exact g1
    exact ⟨fs, by rw [← v1]; exact k2, hi 5 0 (by decide) z5 (by decide), hi 6 0 (by decide) z6 (by decide)⟩
  · exact absurd y (by dsimp only; decide)
  · exact absurd y (by dsimp only; decide)
  · exact absurd y (by dsimp only; decide)
theorem wl_two {α : Type} {ws : List α} {a b : α} (h0 : ws[0]? = some a) (h1 : ws[1]? = some b) : ∃ wr, ws = a :: b :: wr := by
  match ws, h0, h1 with
  | x :: y :: wr, h0, h1 =>
    cases h0; cases h1
    exact ⟨wr, rfl⟩
set_option maxHeartbeats 1000000 in
/-- WHAT IS OWED BEYOND THE LAW AND THE EMPTY STATES: what else class and reference hold (GX, GM), compile in every state, and twelve calls where something is compiled -/
theorem wl_Sys_of {C : Type} {GX GM : ev_KA → Option C → List Value → wl_Y → va_W → Prop} {l : Launch} (hst : l.stackTraces = false) (hGX : wl_GXok GX) (hGM : wl_GMok GM) (bc bs : Option C → Nat → Nat)
    (hi1 : ∀ (ka : ev_KA) (tys : wl_Y) (q : Nat) (l2 : List Nat) (fs : List Value) (q1 : Nat) (cB : ClassId) (f : Nat → Int32) (wr : va_W), ev_M ka "TableTongue$Part" tys (q :: l2) al_h11 ((q, .inr (3, fs)) :: (q1, .inl (cB, 6000, .inl f)) :: wr) → GX ka none fs tys wr)
    (hi2 : ∀ (ka : ev_KA) (tys : wl_Y) (q : Nat) (l2 : List Nat) (fs : List Value) (q1 : Nat) (cB : ClassId) (f : Nat → Int32) (wr : va_W), ev_M ka "TableTongue$Part" tys (q :: l2) al_h19 ((q, .inr (0, fs)) :: (q1, .inl (cB, 6000, .inl f)) :: wr) → GM ka none fs tys wr)
    (hbc : ∀ n, n ≤ 512 → 275 + bc none n ≤ 601024) (hbs : ∀ n, n ≤ 512 → 1472971 + bs none n ≤ room_1.slots)
    (hc0 : ∀ c n, 1 + bc none n ≤ bc c (n + 1)) (hs0 : ∀ c n, 6 + bs none n ≤ bs c (n + 1))
    (hc1 : ∀ c n, 1 + bc c n ≤ bc c (n + 1)) (hs1 : ∀ c n, 6 + bs c n ≤ bs c (n + 1))
    (h2 : ∀ (D : va_G) (ka : ev_KA) (x0 m0 : Nat) (τ : wl_St C) (n : Nat) (y1 y2 y3 : Int32), ∃ (τ' : wl_St C) (mc ms : Nat), wl_T2 (wl_St C) l D ka x0 m0 (wl_KX GX ka) (wl_KM GM ka) τ τ' y1 y2 y3 mc ms ∧ mc + bc τ'.2.2.2.2.2 n ≤ bc τ.2.2.2.2.2 (n + 1) ∧ ms + bs τ'.2.2.2.2.2 n ≤ bs τ.2.2.2.2.2 (n + 1))
    (h4 : ∀ (D : va_G) (ka : ev_KA) (x0 m0 : Nat) (τ : wl_St C) (n : Nat) (y1 y2 y3 : Int32), τ.2.2.2.2.2 ≠ none → ∃ (τ' : wl_St C) (mc ms : Nat), wl_T4 (wl_St C) l D ka x0 m0 (wl_KX GX ka) (wl_KM GM ka) τ τ' y1 y2 y3 mc ms ∧ mc + bc τ'.2.2.2.2.2 n ≤ bc τ.2.2.2.2.2 (n + 1) ∧ ms + bs τ'.2.2.2.2.2 n ≤ bs τ.2.2.2.2.2 (n + 1))
    (h5 : ∀ (D : va_G) (ka : ev_KA) (x0 m0 : Nat) (τ : wl_St C) (n : Nat) (y1 y2 y3 : Int32), τ.2.2.2.2.2 ≠ none → ∃ (τ' : wl_St C) (mc ms : Nat), wl_T5 (wl_St C) l D ka x0 m0 (wl_KX GX ka) (wl_KM GM ka) τ τ' y1 y2 y3 mc ms ∧ mc + bc τ'.2.2.2.2.2 n ≤ bc τ.2.2.2.2.2 (n + 1) ∧ ms + bs τ'.2.2.2.2.2 n ≤ bs τ.2.2.2.2.2 (n + 1))
    (h6 : ∀ (D : va_G) (ka : ev_KA) (x0 m0 : Nat) (τ : wl_St C) (n : Nat) (y1 y2 y3 : Int32), τ.2.2.2.2.2 ≠ none → ∃ (τ' : wl_St C) (mc ms : Nat), wl_T6 (wl_St C) l D ka x0 m0 (wl_KX GX ka) (wl_KM GM ka) τ τ' y1 y2 y3 mc ms ∧ mc + bc τ'.2.2.2.2.2 n ≤ bc τ.2.2.2.2.2 (n + 1) ∧ ms + bs τ'.2.2.2.2.2 n ≤ bs τ.2.2.2.2.2 (n + 1))
    (h7 : ∀ (D : va_G) (ka : ev_KA) (x0 m0 : Nat) (τ : wl_St C) (n : Nat) (y1 y2 y3 : Int32), τ.2.2.2.2.2 ≠ none → ∃ (τ' : wl_St C) (mc ms : Nat), wl_T7 (wl_St C) l D ka x0 m0 (wl_KX GX ka) (wl_KM GM ka) τ τ' y1 y2 y3 mc ms ∧ mc + bc τ'.2.2.2.2.2 n ≤ bc τ.2.2.2.2.2 (n + 1) ∧ ms + bs τ'.2.2.2.2.2 n ≤ bs τ.2.2.2.2.2 (n + 1))
    (h8 : ∀ (D : va_G) (ka : ev_KA) (x0 m0 : Nat) (τ : wl_St C) (n : Nat) (y1 y2 y3 : Int32), τ.2.2.2.2.2 ≠ none → ∃ (τ' : wl_St C) (mc ms : Nat), wl_T8 (wl_St C) l D ka x0 m0 (wl_KX GX ka) (wl_KM GM ka) τ τ' y1 y2 y3 mc ms ∧ mc + bc τ'.2.2.2.2.2 n ≤ bc τ.2.2.2.2.2 (n + 1) ∧ ms + bs τ'.2.2.2.2.2 n ≤ bs τ.2.2.2.2.2 (n + 1))
    (h9 : ∀ (D : va_G) (ka : ev_KA) (x0 m0 : Nat) (τ : wl_St C) (n : Nat) (y1 y2 y3 : Int32), τ.2.2.2.2.2 ≠ none → ∃ (τ' : wl_St C) (mc ms : Nat), wl_T9 (wl_St C) l D ka x0 m0 (wl_KX GX ka) (wl_KM GM ka) τ τ' y1 y2 y3 mc ms ∧ mc + bc τ'.2.2.2.2.2 n ≤ bc τ.2.2.2.2.2 (n + 1) ∧ ms + bs τ'.2.2.2.2.2 n ≤ bs τ.2.2.2.2.2 (n + 1))
    (h10 : ∀ (D : va_G) (ka : ev_KA) (x0 m0 : Nat) (τ : wl_St C) (n : Nat) (y1 y2 y3 : Int32), τ.2.2.2.2.2 ≠ none → ∃ (τ' : wl_St C) (mc ms : Nat), wl_T10 (wl_St C) l D ka x0 m0 (wl_KX GX ka) (wl_KM GM ka) τ τ' y1 y2 y3 mc ms ∧ mc + bc τ'.2.2.2.2.2 n ≤ bc τ.2.2.2.2.2 (n + 1) ∧ ms + bs τ'.2.2.2.2.2 n ≤ bs τ.2.2.2.2.2 (n + 1))
    (h11 : ∀ (D : va_G) (ka : ev_KA) (x0 m0 : Nat) (τ : wl_St C) (n : Nat) (y1 y2 y3 : Int32), τ.2.2.2.2.2 ≠ none → ∃ (τ' : wl_St C) (mc ms : Nat), wl_T11 (wl_St C) l D ka x0 m0 (wl_KX GX ka) (wl_KM GM ka) τ τ' y1 y2 y3 mc ms ∧ mc + bc τ'.2.2.2.2.2 n ≤ bc τ.2.2.2.2.2 (n + 1) ∧ ms + bs τ'.2.2.2.2.2 n ≤ bs τ.2.2.2.2.2 (n + 1))
    (h12 : ∀ (D : va_G) (ka : ev_KA) (x0 m0 : Nat) (τ : wl_St C) (n : Nat) (y1 y2 y3 : Int32), τ.2.2.2.2.2 ≠ none → ∃ (τ' : wl_St C) (mc ms : Nat), wl_T12 (wl_St C) l D ka x0 m0 (wl_KX GX ka) (wl_KM GM ka) τ τ' y1 y2 y3 mc ms ∧ mc + bc τ'.2.2.2.2.2 n ≤ bc τ.2.2.2.2.2 (n + 1) ∧ ms + bs τ'.2.2.2.2.2 n ≤ bs τ.2.2.2.2.2 (n + 1))
    (h13 : ∀ (D : va_G) (ka : ev_KA) (x0 m0 : Nat) (τ : wl_St C) (n : Nat) (y1 y2 y3 : Int32), τ.2.2.2.2.2 ≠ none → ∃ (τ' : wl_St C) (mc ms : Nat), wl_T13 (wl_St C) l D ka x0 m0 (wl_KX GX ka) (wl_KM GM ka) τ τ' y1 y2 y3 mc ms ∧ mc + bc τ'.2.2.2.2.2 n ≤ bc τ.2.2.2.2.2 (n + 1) ∧ ms + bs τ'.2.2.2.2.2 n ≤ bs τ.2.2.2.2.2 (n + 1))
    (h14 : ∀ (D : va_G) (ka : ev_KA) (x0 m0 : Nat) (τ : wl_St C) (n : Nat) (y1 y2 y3 : Int32), τ.2.2.2.2.2 ≠ none → ∃ (τ' : wl_St C) (mc ms : Nat), wl_T14 (wl_St C) l D ka x0 m0 (wl_KX GX ka) (wl_KM GM ka) τ τ' y1 y2 y3 mc ms ∧ mc + bc τ'.2.2.2.2.2 n ≤ bc τ.2.2.2.2.2 (n + 1) ∧ ms + bs τ'.2.2.2.2.2 n ≤ bs τ.2.2.2.2.2 (n + 1))
    (h15 : ∀ (D : va_G) (ka : ev_KA) (x0 m0 : Nat) (τ : wl_St C) (n : Nat) (y1 y2 y3 : Int32), τ.2.2.2.2.2 ≠ none → ∃ (τ' : wl_St C) (mc ms : Nat), wl_T15 (wl_St C) l D ka x0 m0 (wl_KX GX ka) (wl_KM GM ka) τ τ' y1 y2 y3 mc ms ∧ mc + bc τ'.2.2.2.2.2 n ≤ bc τ.2.2.2.2.2 (n + 1) ∧ ms + bs τ'.2.2.2.2.2 n ≤ bs τ.2.2.2.2.2 (n + 1)) : wl_Sys l := by
  refine ⟨wl_St C, wl_KX GX, wl_KM GM, (0, fun _ => 0, 0, 0, 0, none), fun τ n => bc τ.2.2.2.2.2 n, fun τ n => bs τ.2.2.2.2.2 n, fun ka τ => wl_KX_Rc τ, fun ka τ th => wl_KM_Rc τ th, fun ka tys q l2 ws hM => ?_, fun ka tys q l2 ws hM => ?_, hbc, hbs, fun D ka x0 m0 => ⟨fun τ th => ws_thrown, fun τ n k y1 y2 y3 hk => ?_⟩⟩
  · obtain ⟨fs, q1, cB, f, t0, w0, w1, u0, u1, u2, u3, u4, u5, u6⟩ := lw_x hM
    obtain ⟨wr, rfl⟩ := wl_two w0 w1
    exact ⟨q1, cB, f, fs, wr, t0, rfl, u0, ⟨u1, u2, u3, u4, u5, u6⟩, fun i hi => absurd hi (Nat.not_lt_zero i), Nat.zero_le _, hi1 ka tys q l2 fs q1 cB f wr hM⟩
  · obtain ⟨fs, q1, cB, f, t0, w0, w1, u0, u1, u2, u3, u4, u5, u6⟩ := lw_m hM
    obtain ⟨fs', w0', z5, z6⟩ := wl_m56 hM
    rw [w0] at w0'
    cases w0'
    obtain ⟨wr, rfl⟩ := wl_two w0 w1
    exact ⟨q1, cB, f, fs, wr, t0, rfl, u0, ⟨u1, u3, u2, u4, u5, u6, z5, z6⟩, fun i hi => absurd hi (Nat.not_lt_zero i), Nat.zero_le _, hi2 ka tys q l2 fs q1 cB f wr hM⟩
  · have stay : ∀ (k : Nat), (∃ (mc ms : Nat), mc ≤ 1 ∧ ms ≤ 6 ∧ wl_Step (wl_St C) l D ka x0 m0 (wl_KX GX ka) (wl_KM GM ka) τ τ k y1 y2 y3 mc ms) → ∃ (τ' : wl_St C) (mc ms : Nat), wl_Step (wl_St C) l D ka x0 m0 (wl_KX GX ka) (wl_KM GM ka) τ τ' k y1 y2 y3 mc ms ∧ mc + bc τ'.2.2.2.2.2 n ≤ bc τ.2.2.2.2.2 (n + 1) ∧ ms + bs τ'.2.2.2.2.2 n ≤ bs τ.2.2.2.2.2 (n + 1) := by
      rintro k ⟨mc, ms, b1, b2, h⟩
      have q1 := hc1 τ.2.2.2.2.2 n
      have q2 := hs1 τ.2.2.2.2.2 n
      exact ⟨τ, mc, ms, h, by omega, by omega⟩
    have none' : ∀ (k : Nat), (∃ (τ' : wl_St C) (mc ms : Nat), (τ'.2.2.2.2.2 = none ∨ τ' = τ) ∧ mc ≤ 1 ∧ ms ≤ 6 ∧ wl_Step (wl_St C) l D ka x0 m0 (wl_KX GX ka) (wl_KM GM ka) τ τ' k y1 y2 y3 mc ms) → ∃ (τ' : wl_St C) (mc ms : Nat), wl_Step (wl_St C) l D ka x0 m0 (wl_KX GX ka) (wl_KM GM ka) τ τ' k y1 y2 y3 mc ms ∧ mc + bc τ'.2.2.2.2.2 n ≤ bc τ.2.2.2.2.2 (n + 1) ∧ ms + bs τ'.2.2.2.2.2 n ≤ bs τ.2.2.2.2.2 (n + 1) := by
      rintro k ⟨τ', mc, ms, b0, b1, b2, h⟩
      rcases b0 with b0 | rfl
      · have q1 := hc0 τ.2.2.2.2.2 n
        have q2 := hs0 τ.2.2.2.2.2 n
        exact ⟨τ', mc, ms, h, by rw [b0]; omega, by rw [b0]; omega⟩
      · exact stay k ⟨mc, ms, b1, b2, h⟩
    have e16 : k = 0 ∨ k = 1 ∨ k = 2 ∨ k = 3 ∨ k = 4 ∨ k = 5 ∨ k = 6 ∨ k = 7 ∨ k = 8 ∨ k = 9 ∨ k = 10 ∨ k = 11 ∨ k = 12 ∨ k = 13 ∨ k = 14 ∨ k = 15 := by omega
    by_cases hcn : τ.2.2.2.2.2 = none
    · rcases e16 with rfl | rfl | rfl | rfl | rfl | rfl | rfl | rfl | rfl | rfl | rfl | rfl | rfl | rfl | rfl | rfl
      · exact none' 0 (ws_0 hGX hGM τ hst y1 y2 y3)
      · exact none' 1 (ws_1 hGX hGM τ y1 y2 y3)
      · exact h2 D ka x0 m0 τ n y1 y2 y3
      · exact none' 3 (ws_3 hGX hGM τ hst y1 y2 y3)
      · exact none' 4 (ws_4 hGX hGM τ hst hcn y1 y2 y3)
      · exact none' 5 (ws_5 hGX hGM τ hst hcn y1 y2 y3)
      · exact none' 6 (ws_6 hGX hGM τ hst hcn y1 y2 y3)
      · exact none' 7 (ws_7 hGX hGM τ hcn y1 y2 y3)
      · exact none' 8 (ws_8 hGX hGM τ hcn y1 y2 y3)
      · exact none' 9 (ws_9 hGX hGM τ hst hcn y1 y2 y3)
      · exact none' 10 (ws_10 hGX hGM τ hst hcn y1 y2 y3)
      · exact none' 11 (ws_11 hGX hGM τ hcn y1 y2 y3)
      · exact none' 12 (ws_12 hGX hGM τ hst hcn y1 y2 y3)
      · exact none' 13 (ws_13 hGX hGM τ hst hcn y1 y2 y3)
      · exact none' 14 (ws_14 hGX hGM τ hst hcn y1 y2 y3)
      · exact none' 15 (ws_15 hGX hGM τ hst hcn y1 y2 y3)
    · rcases e16 with rfl | rfl | rfl | rfl | rfl | rfl | rfl | rfl | rfl | rfl | rfl | rfl | rfl | rfl | rfl | rfl
      · exact none' 0 (ws_0 hGX hGM τ hst y1 y2 y3)
      · exact none' 1 (ws_1 hGX hGM τ y1 y2 y3)
      · exact h2 D ka x0 m0 τ n y1 y2 y3
      · exact none' 3 (ws_3 hGX hGM τ hst y1 y2 y3)
      · exact h4 D ka x0 m0 τ n y1 y2 y3 hcn
      · exact h5 D ka x0 m0 τ n y1 y2 y3 hcn
      · exact h6 D ka x0 m0 τ n y1 y2 y3 hcn
      · exact h7 D ka x0 m0 τ n y1 y2 y3 hcn
      · exact h8 D ka x0 m0 τ n y1 y2 y3 hcn
      · exact h9 D ka x0 m0 τ n y1 y2 y3 hcn
      · exact h10 D ka x0 m0 τ n y1 y2 y3 hcn
      · exact h11 D ka x0 m0 τ n y1 y2 y3 hcn
      · exact h12 D ka x0 m0 τ n y1 y2 y3 hcn
      · exact h13 D ka x0 m0 τ n y1 y2 y3 hcn
      · exact h14 D ka x0 m0 τ n y1 y2 y3 hcn
      · exact h15 D ka x0 m0 τ n y1 y2 y3 hcn
