/-! ===== 90: the class's next() (wip/whole2/90.txt) ===== -/
/-- a digit -/
theorem tx_num {F : wq_F} {T : Nat → Nat} {ls : List (List Nat)} {n p : Nat} (hF : F 57 2 = n) (hP : F 57 5 = p) (hn6 : n ≤ 6000) (hp : p < n) (hT : ∀ i, i < n → F 1 i = ev_b8 (T i) ∧ T i < 256) (hR : cs_ok F ls) (ha : lx_letter (T p) = 0) (hb : ¬ lx_digit (T p) = 0) : ∃ G, dk_191 F = some (0, G) ∧ tx_tok T n p F ls G ls := by
  have hK := tk_K_in (T := T) (n := n) hp
  rw [if_neg (fun z => z ha), if_pos hb] at hK
  have hE : tk_E T n p = (lx_num T n p).2.2 := (if_neg (fun z => z ha)).trans (if_pos hb)
  have hV : tk_V T n p = (lx_num T n p).2.1 - 18446744073709551616 := (if_neg (fun z => z ha)).trans (if_pos hb)
  have hn := lx_num_b hp hb
  have hx := nx_num (T := T) (T' := F 1) (n := n) (p := p) hT (by rw [lx_at_of hp]; exact hb)
  have h1 : (if (lx_num T n p).1 = 2 then 3 else 1) < 4294967296 := wd_ite (by decide) (by decide)
  refine ⟨wq_up (wq_up (wq_up F 57 8 (lx_num T n p).2.1) 57 3 (lx_num T n p).2.2) 57 4 (if (lx_num T n p).1 = 2 then 3 else 1), ?_, ?_⟩
  · unfold dk_191
    rw [hP, hF, hx, od_g1 ⟨hn6, hp, h1, hn.2.1, by show (lx_num T n p).2.2 < 4294967296; omega⟩]
  · refine ⟨?_, fun _ => ?_, fun _ => ?_, fun _ => ⟨rfl, fun i => ?_, ?_⟩, fun z => ?_, cs_ok_f (cs_ok_f (cs_ok_f hR (Or.inr (by decide)) (by decide)) (Or.inr (by decide)) (by decide)) (Or.inr (by decide)) (by decide), fun c i hc h2 h3 => ?_⟩
    · rw [wq_up_same]
      unfold tk_ty
      rw [hK]
      rcases hn.1 with e | e
      · rw [e]; rfl
      · rw [e]; rfl
    · rw [hE, wq_up_at (by decide), wq_up_same]
    · rw [hV, wq_up_at (by decide), wq_up_at (by decide), wq_up_same]
      have := ev_isL_s hn.2.1
      omega
    · rw [wq_up_cell (by decide), wq_up_cell (by decide), wq_up_cell (by decide)]
    · rw [wq_up_cell (by decide), wq_up_cell (by decide), wq_up_cell (by decide)]
    · rw [hK] at z
      omega
    · rw [wq_up_ne (fun z => by have := h3 z.1; omega), wq_up_ne (fun z => by have := h3 z.1; omega), wq_up_ne (fun z => by have := h3 z.1; omega)]
/-- a quote -/
theorem tx_quote {nn : Nat} {F : wq_F} {T : Nat → Nat} {ls : List (List Nat)} {n p : Nat} (hF : F 57 2 = n) (hP : F 57 5 = p) (hn6 : n ≤ 6000) (hp : p < n) (hT : ∀ i, i < n → F 1 i = ev_b8 (T i) ∧ T i < 256) (hR : cs_ok F ls) (hn : 6002 < nn) (hn2 : ls.length < nn) (hm : ls.length < 3000) (hpo : st_off ls ls.length + 200 ≤ 32768) (ha : lx_letter (T p) = 0) (hb : lx_digit (T p) = 0) (hc : T p = 34 ∨ T p = 39) : ∃ G ms, dk_192 nn F = some (0, G) ∧ tx_tok T n p F ls G ms := by
  have hK := tk_K_in (T := T) (n := n) hp
  rw [if_neg (fun z => z ha), if_neg (fun z => z hb), if_pos hc] at hK
  have hE : tk_E T n p = (lx_str T n p).2.1 + 1 := (if_neg (fun z => z ha)).trans ((if_neg (fun z => z hb)).trans (if_pos hc))
  have hB : tk_B T n p = (lx_str T n p).1 := if_neg (fun z => z ha)
  have hs := dkS_192 hF hP hn6 hp hT hc hR hn hn2 hm hpo
  by_cases g : lx_qg T n (T p) [] (lx_str T n p)
  · have g3 : 0 + (lx_str T n p).1.length ≤ 200 := g.2.2
    rw [if_pos ⟨g.1, g.2.1, by omega⟩] at hK
    refine ⟨_, st_with ls (lx_str T n p).1, hs.1 g, ?_⟩
    unfold qx_fin
    have fr : ∀ c i, (c < 2 ∨ 10 < c ∨ c = 2 ∨ c = 9) → (c = 2 → i ≠ 6 ∧ i ≠ 8 ∧ i ≠ 9 ∧ i ≠ 11 ∧ i ≠ 15) → (c = 57 → i ≠ 3 ∧ i ≠ 4 ∧ i ≠ 8) → qx_g F (lx_str T n p).1 (lx_str T n p).2.1 c i = F c i := fun c i hc h1 h2 => by
      unfold qx_g
      rw [wq_up_ne (fun z => by have := h2 z.1; omega), wq_up_ne (fun z => by have := h2 z.1; omega), wq_up_ne (fun z => by have := h2 z.1; omega), wq_up_ne (fun z => by have := h2 z.1; omega), xfw_c (by omega) (fun z => by have := h1 z; omega)]
    have hcl : ∀ c, c ≠ 57 → qx_g F (lx_str T n p).1 (lx_str T n p).2.1 c = xfw F (lx_str T n p).1 c := fun c hc => by
      funext i
      unfold qx_g
      rw [wq_up_cell hc, wq_up_cell hc, wq_up_cell hc, wq_up_cell hc]
    obtain ⟨s, s1, s2, s3, s4, s5, s6, s7, s8⟩ := tx_str (G := qx_g F (lx_str T n p).1 (lx_str T n p).2.1) (b := (lx_str T n p).1) hm fr (cs_ok_up (cs_ok_xfw hR _) ⟨by rw [hcl 2 (by decide)], by rw [hcl 2 (by decide)]⟩ (fun c h3 h4 => hcl c (by omega))) (by rw [hcl 10 (by decide)]; exact xfw_is F _) (by rw [hcl 2 (by decide), xfw_len])
    rw [s1]
    refine ⟨?_, fun _ => ?_, fun z => ?_, fun z => absurd (Or.inr hK) z, fun _ => ⟨s, ?_, s2, by rw [hB]; exact s4, by rw [hB], ?_, fun i => ?_⟩, cs_ok_f s5 (Or.inr (by decide)) (by decide), fun c i hc h1 h2 => ?_⟩
    · unfold tk_ty
      rw [hK, wq_up_at (by decide), s8 57 4 (by decide) (by decide)]
      unfold qx_g
      rw [wq_up_at (by decide), wq_up_same]
      rfl
    · rw [hE, wq_up_at (by decide), s8 57 3 (by decide) (by decide)]
      unfold qx_g
      rw [wq_up_same]
    · omega
    · rw [wq_up_same, nx_i2l s3]
    · rw [wq_up_cell (by decide)]
      exact s6
    · rw [wq_up_cell (by decide)]
      exact s7 i
    · rw [wq_up_ne (fun z => by have := h2 z.1; omega), s8 c i hc (fun z => by have := h1 z; omega)]
      exact fr c i (by omega) h1 h2
  · have g' : ¬ ((lx_str T n p).2.2 = 1 ∧ lx_at T n (lx_str T n p).2.1 = T p ∧ (lx_str T n p).1.length ≤ 200) := fun z => g ⟨z.1, z.2.1, by show 0 + (lx_str T n p).1.length ≤ 200; omega⟩
    rw [if_neg g'] at hK
    obtain ⟨b', e', hl, hd⟩ := hs.2 g
    refine ⟨_, ls, hd, ?_, fun z => absurd hK z.2, fun z => ?_, fun _ => ⟨rfl, fun i => ?_, ?_⟩, fun z => ?_, cs_ok_f (cs_ok_f (cs_ok_xfw hR _) (Or.inr (by decide)) (by decide)) (Or.inr (by decide)) (by decide), fun c i hc h1 h2 => ?_⟩
    · unfold tk_ty
      rw [hK, wq_up_at (by decide), wq_up_same]
      rfl
    · omega
    · rw [wq_up_cell (by decide), wq_up_cell (by decide), xfw_c (by decide) (by omega)]
    · rw [wq_up_cell (by decide), wq_up_cell (by decide), xfw_c (by decide) (by decide)]
    · omega
    · rw [wq_up_ne (fun z => by have := h2 z.1; omega), wq_up_ne (fun z => by have := h2 z.1; omega), xfw_c (by omega) (fun z => by have := h1 z; omega)]
/-- any other byte -/
theorem tx_sign {F : wq_F} {T : Nat → Nat} {ls : List (List Nat)} {n p : Nat} (hp : p < n) (hR : cs_ok F ls) (ha : lx_letter (T p) = 0) (hb : lx_digit (T p) = 0) (hc : ¬ (T p = 34 ∨ T p = 39)) : tx_tok T n p F ls (sgx_res F T n p) ls := by
  have hK := tk_K_in (T := T) (n := n) hp
  rw [if_neg (fun z => z ha), if_neg (fun z => z hb), if_neg hc] at hK
  have hE : tk_E T n p = (lx_sgn T n p).2 := (if_neg (fun z => z ha)).trans ((if_neg (fun z => z hb)).trans (if_neg hc))
  have hV : tk_V T n p = (lx_sgn T n p).1 := (if_neg (fun z => z ha)).trans (if_neg (fun z => z hb))
  unfold sgx_res
  refine ⟨?_, fun _ => ?_, fun z => ?_, fun _ => ⟨rfl, fun i => ?_, ?_⟩, fun z => ?_, cs_ok_f (cs_ok_f hR (Or.inr (by decide)) (by decide)) (Or.inr (by decide)) (by decide), fun c i hc h2 h3 => ?_⟩
  · rw [wq_up_at (by decide), wq_up_same]
    unfold tk_ty
    rw [hK, hV]
    by_cases q : (lx_sgn T n p).1 = 0
    · rw [if_pos q, if_pos q]
      rfl
    · rw [if_neg q, if_neg q]
      rfl
  · rw [hE, wq_up_same]
  · rw [hK] at z
    by_cases q : (lx_sgn T n p).1 = 0
    · rw [if_pos q] at z; omega
    · rw [if_neg q] at z; omega
  · rw [wq_up_cell (by decide), wq_up_cell (by decide)]
  · rw [wq_up_cell (by decide), wq_up_cell (by decide)]
  · rw [hK] at z
    by_cases q : (lx_sgn T n p).1 = 0
    · rw [if_pos q] at z; omega
    · rw [if_neg q] at z; omega
  · rw [wq_up_ne (fun z => by have := h3 z.1; omega), wq_up_ne (fun z => by have := h3 z.1; omega)]
/-- the class stands at a token -/
def ct_at (T : Nat → Nat) (n p i : Nat) (F : wq_F) (ls : List (List Nat)) (G : wq_F) (ms : List (List Nat)) : Prop :=
  (G 57 4 = tk_ty T n p ∧ G 57 5 = p ∧ G 57 6 = 1 + lc T p ∧ G 57 7 = i) ∧ (¬ tk_K T n p = 6 ∧ ¬ tk_K T n p = 7 → G 57 3 = tk_E T n p) ∧
  (tk_K T n p = 2 → G 57 8 = 18446744073709551616 + tk_V T n p) ∧
  (¬ (tk_K T n p = 1 ∨ tk_K T n p = 3) → ms = ls ∧ (∀ i, G 9 i = F 9 i) ∧ G 2 11 = F 2 11) ∧
  (tk_K T n p = 1 ∨ tk_K T n p = 3 → ∃ s, G 57 8 = 18446744073709551616 + s ∧ s < ms.length ∧ ms.getD s [] = tk_B T n p ∧ ms = st_with ls (tk_B T n p) ∧ G 2 11 = ms.length ∧ ∀ i, G 9 i = if i = s then (if s < ls.length then (if F 9 i = 2 then 3 else F 9 i) else 3) else F 9 i) ∧
  cs_ok G ms ∧ (∀ c i, (c < 2 ∨ 10 < c ∨ c = 2) → (c = 2 → i ≠ 6 ∧ i ≠ 8 ∧ i ≠ 9 ∧ i ≠ 11 ∧ i ≠ 15) → (c = 57 → i < 3 ∨ 8 < i) → G c i = F c i)
theorem ct_of {T : Nat → Nat} {n p i : Nat} {F B G : wq_F} {ls ms : List (List Nat)} (hB : B 57 5 = p ∧ B 57 6 = 1 + lc T p ∧ B 57 7 = i) (hBF : ∀ c i, (c = 57 → i < 3 ∨ 8 < i) → B c i = F c i) (t : tx_tok T n p B ls G ms) : ct_at T n p i F ls G ms := by
  obtain ⟨t1, t2, t3, t4, t5, t6, t7⟩ := t
  refine ⟨⟨t1, ?_, ?_, ?_⟩, t2, t3, fun z => ?_, fun z => ?_, t6, fun c i hc h1 h2 => ?_⟩
  · rw [t7 57 5 (by decide) (by decide) (by decide)]; exact hB.1
  · rw [t7 57 6 (by decide) (by decide) (by decide)]; exact hB.2.1
  · rw [t7 57 7 (by decide) (by decide) (by decide)]; exact hB.2.2
  · obtain ⟨a, b, c⟩ := t4 z
    exact ⟨a, fun i => by rw [b i]; exact hBF 9 i (by omega), by rw [c]; exact hBF 2 11 (by decide)⟩
  · obtain ⟨s, a1, a2, a3, a4, a5, a6⟩ := t5 z
    refine ⟨s, a1, a2, a3, a4, a5, fun i => ?_⟩
    rw [a6 i, hBF 9 i (by omega)]
  · rw [t7 c i hc h1 (fun z => by have := h2 z; omega)]
    exact hBF c i h2
/-- the blanks before a token: the lines that end there -/
theorem dkL_73_24 {nn : Nat} {T : Nat → Nat} {n v : Nat} (hn6 : n ≤ 6000) (hv : v ≤ n) : ∀ g k : Nat, ∀ G : wq_F, k ≤ v → v - k < g → (∀ i, i < n → G 1 i = ev_b8 (T i) ∧ T i < 256) → G 57 6 + (v - k) < 100000 → dk_73_24 nn g G v k = dk_73_24 nn 1 (wq_up G 57 6 (G 57 6 + (lc T v - lc T k))) v v
  | 0, k, G, h1, h2, _, _ => absurd h2 (by omega)
  | g + 1, k, G, h1, h2, hT, h6 => by
    by_cases q : k < v
    · have hd : dk_73_24 nn (g + 1) G v k = dk_73_24b nn (dk_73_24 nn g) G v k := rfl
      rw [hd]
      unfold dk_73_24b
      have hk := hT k (by omega)
      have c2 : G 1 k = 10 ↔ T k = 10 := by rw [hk.1]; exact lx_b8_c hk.2 (by decide)
      have hs : lc T (k + 1) = lc T k + (if T k = 10 then 1 else 0) := rfl
      have hmono := lc_mono T (show k + 1 ≤ v by omega)
      rw [if_pos ((wd_slt (by omega) (by omega)).mpr q), od_g1 (by omega)]
      by_cases z : T k = 10
      · rw [if_pos z] at hs
        rw [if_pos (c2.mpr z), od_upS, od_letS, Nat.mod_eq_of_lt (show G 57 6 + 1 < 4294967296 by omega), Nat.mod_eq_of_lt (show k + 1 < 4294967296 by omega)]
        rw [dkL_73_24 hn6 hv g (k + 1) (wq_up G 57 6 (G 57 6 + 1)) (by omega) (by omega) (fun i hi => by rw [wq_up_cell (by decide)]; exact hT i hi) (by
          rw [wq_up_same]
          omega)]
        rw [wq_upup, wq_up_same, show G 57 6 + 1 + (lc T v - lc T (k + 1)) = G 57 6 + (lc T v - lc T k) by omega]
      · rw [if_neg z] at hs
        rw [if_neg (fun y => z (c2.mp y)), od_letS, Nat.mod_eq_of_lt (show k + 1 < 4294967296 by omega), dkL_73_24 hn6 hv g (k + 1) G (by omega) (by omega) hT (by omega), show lc T v - lc T (k + 1) = lc T v - lc T k by omega]
    · have e : k = v := by omega
      subst e
      rw [show G 57 6 + (lc T k - lc T k) = G 57 6 by omega, wq_up_id]
      show dk_73_24b nn (dk_73_24 nn g) G k k = dk_73_24b nn (dk_73_24 nn 0) G k k
      unfold dk_73_24b
      rw [if_neg (fun z => absurd ((wd_slt (by omega) (by omega)).mp z) (by omega)), if_neg (fun z => absurd ((wd_slt (by omega) (by omega)).mp z) (by omega))]
/-- what begin() leaves: place, end, number -/
def bg_up (G : wq_F) (p i : Nat) : wq_F := wq_up (wq_up (wq_up G 57 5 p) 57 3 p) 57 7 i
theorem bg_up_c {G : wq_F} {p i c j : Nat} (h : c = 57 → j ≠ 3 ∧ j ≠ 5 ∧ j ≠ 7) : bg_up G p i c j = G c j := by
  unfold bg_up
  rw [wq_up_ne (fun z => by have := h z.1; omega), wq_up_ne (fun z => by have := h z.1; omega), wq_up_ne (fun z => by have := h z.1; omega)]
/-- the class's next() where it isn't stopped -/
theorem dkS_77_28 {nn : Nat} {G : wq_F} {T : Nat → Nat} {ls : List (List Nat)} {n e i : Nat} (h4 : ¬ G 57 4 = 5) (hF : G 57 2 = n) (hn6 : n ≤ 6000) (hT : ∀ i, i < n → G 1 i = ev_b8 (T i) ∧ T i < 256) (h3 : G 57 3 = e) (he : e ≤ n) (h6 : G 57 6 = 1 + lc T e) (h7 : G 57 7 = i) (hi : i < 100000) (hR : cs_ok G ls) (hw : cs_w ls) (hn : 6002 < nn) (hn2 : ls.length < nn) (hm : ls.length < 3000) (hpo : st_off ls ls.length + 200 ≤ 32768) :
    ∃ H ms, dk_77_28 nn G = some (0, H) ∧ ct_at T n (lx_skip T n (n + 1) e) (if lx_skip T n (n + 1) e < n then i + 1 else i) G ls H ms := by
  have hsk : lx_skip (G 1) n (n + 1) e = lx_skip T n (n + 1) e := lx_skip_b8 hT (n + 1) e
  have hpn : lx_skip T n (n + 1) e ≤ n := lx_skip_le _ _ he
  have hpe : e ≤ lx_skip T n (n + 1) e := lx_skip_ge _ _
  unfold dk_77_28
  have hb : dk_73 nn G = dk_73_24 nn 1 (wq_up G 57 6 (1 + lc T (lx_skip T n (n + 1) e))) (lx_skip T n (n + 1) e) (lx_skip T n (n + 1) e) := by
    unfold dk_73
    rw [if_neg h4, h3]
    have h74 : dk_74 G e = some (lx_skip T n (n + 1) e, G) := by
      unfold dk_74
      rw [hF, od_g1 ⟨hn6, he⟩, hsk]
    have hmono := lc_mono T hpe
    have hle := lc_le T e
    rw [h74, od_bS]
    dsimp only
    rw [h3, dkL_73_24 hn6 hpn nn e G hpe (by omega) hT (by omega), h6, show 1 + lc T e + (lc T (lx_skip T n (n + 1) e) - lc T e) = 1 + lc T (lx_skip T n (n + 1) e) by omega]
  rw [hb]
  generalize lx_skip T n (n + 1) e = p at hpn
  have hb2 : dk_73_24 nn 1 (wq_up G 57 6 (1 + lc T p)) p p = dk_73_24b nn (dk_73_24 nn 0) (wq_up G 57 6 (1 + lc T p)) p p := rfl
  rw [hb2]
  unfold dk_73_24b
  rw [if_neg (fun z => absurd ((wd_slt (by omega) (by omega)).mp z) (by omega)), od_upS, od_upS]
  have e5 : wq_up (wq_up (wq_up G 57 6 (1 + lc T p)) 57 5 p) 57 3 p 57 5 = p := by rw [wq_up_at (by decide), wq_up_same]
  have e2 : wq_up (wq_up (wq_up G 57 6 (1 + lc T p)) 57 5 p) 57 3 p 57 2 = n := by rw [wq_up_at (by decide), wq_up_at (by decide), wq_up_at (by decide)]; exact hF
  have e7 : wq_up (wq_up (wq_up G 57 6 (1 + lc T p)) 57 5 p) 57 3 p 57 7 = i := by rw [wq_up_at (by decide), wq_up_at (by decide), wq_up_at (by decide)]; exact h7
  have fr : ∀ (x : Nat) c j, (c = 57 → j < 3 ∨ 8 < j) → bg_up (wq_up G 57 6 (1 + lc T p)) p x c j = G c j := fun x c j h => by
    rw [bg_up_c (fun z => by have := h z; omega), wq_up_ne (fun z => by have := h z.1; omega)]
  rw [e5, e2, e7]
  by_cases hp : p < n
  · rw [if_pos ((wd_slt (by omega) (by omega)).mpr hp), od_upS, Nat.mod_eq_of_lt (show i + 1 < 4294967296 by omega), if_pos hp]
    have hbg : wq_up (wq_up (wq_up (wq_up G 57 6 (1 + lc T p)) 57 5 p) 57 3 p) 57 7 (i + 1) = bg_up (wq_up G 57 6 (1 + lc T p)) p (i + 1) := rfl
    rw [hbg]
    have b5 : bg_up (wq_up G 57 6 (1 + lc T p)) p (i + 1) 57 5 = p := by
      unfold bg_up
      rw [wq_up_at (by decide), wq_up_at (by decide), wq_up_same]
    have b2 : bg_up (wq_up G 57 6 (1 + lc T p)) p (i + 1) 57 2 = n := by rw [fr _ 57 2 (by decide)]; exact hF
    have b1 : ∀ j, bg_up (wq_up G 57 6 (1 + lc T p)) p (i + 1) 1 j = G 1 j := fun j => fr _ 1 j (by omega)
    have bT : ∀ j, j < n → bg_up (wq_up G 57 6 (1 + lc T p)) p (i + 1) 1 j = ev_b8 (T j) ∧ T j < 256 := fun j hj => by rw [b1]; exact hT j hj
    have bR : cs_ok (bg_up (wq_up G 57 6 (1 + lc T p)) p (i + 1)) ls := cs_ok_up hR ⟨fr _ 2 8 (by decide), fr _ 2 9 (by decide)⟩ (fun c h8 h9 => by funext j; exact fr _ c j (by omega))
    have bB : bg_up (wq_up G 57 6 (1 + lc T p)) p (i + 1) 57 5 = p ∧ bg_up (wq_up G 57 6 (1 + lc T p)) p (i + 1) 57 6 = 1 + lc T p ∧ bg_up (wq_up G 57 6 (1 + lc T p)) p (i + 1) 57 7 = i + 1 := ⟨b5, by rw [bg_up_c (by decide), wq_up_same], wq_up_same _ _ _ _⟩
    have hk := bT p hp
    rw [b5, od_g1 (by omega)]
    have hlet : lx_letter (bg_up (wq_up G 57 6 (1 + lc T p)) p (i + 1) 1 p) = lx_letter (T p) := by
      have := nx_letE bT p
      rw [lx_at_of hp, lx_at_of hp] at this
      exact this
    have hdig : lx_digit (bg_up (wq_up G 57 6 (1 + lc T p)) p (i + 1) 1 p) = lx_digit (T p) := by
      have := nx_digE bT p
      rw [lx_at_of hp, lx_at_of hp] at this
      exact this
    have c34 : bg_up (wq_up G 57 6 (1 + lc T p)) p (i + 1) 1 p = 34 ↔ T p = 34 := by rw [hk.1]; exact lx_b8_c hk.2 (by decide)
    have c39 : bg_up (wq_up G 57 6 (1 + lc T p)) p (i + 1) 1 p = 39 ↔ T p = 39 := by rw [hk.1]; exact lx_b8_c hk.2 (by decide)
    show ∃ H ms, ((some (lx_letter (bg_up (wq_up G 57 6 (1 + lc T p)) p (i + 1) 1 p), bg_up (wq_up G 57 6 (1 + lc T p)) p (i + 1))).bind _).bind _ = _ ∧ _
    rw [od_bS, hlet]
    dsimp only
    by_cases a : lx_letter (T p) = 0
    · rw [if_pos a]
      show ∃ H ms, ((some (lx_digit (bg_up (wq_up G 57 6 (1 + lc T p)) p (i + 1) 1 p), bg_up (wq_up G 57 6 (1 + lc T p)) p (i + 1))).bind _).bind _ = _ ∧ _
      rw [od_bS, hdig]
      dsimp only
      by_cases b : lx_digit (T p) = 0
      · rw [if_pos b]
        by_cases c : T p = 34 ∨ T p = 39
        · obtain ⟨H, ms, d1, d2⟩ := tx_quote (nn := nn) b2 b5 hn6 hp bT bR hn hn2 hm hpo a b c
          have : (if bg_up (wq_up G 57 6 (1 + lc T p)) p (i + 1) 1 p = 34 then some (4, bg_up (wq_up G 57 6 (1 + lc T p)) p (i + 1)) else if bg_up (wq_up G 57 6 (1 + lc T p)) p (i + 1) 1 p = 39 then some (4, bg_up (wq_up G 57 6 (1 + lc T p)) p (i + 1)) else some (1, bg_up (wq_up G 57 6 (1 + lc T p)) p (i + 1))) = some (4, bg_up (wq_up G 57 6 (1 + lc T p)) p (i + 1)) := by
            by_cases c1 : T p = 34
            · rw [if_pos (c34.mpr c1)]
            · rw [if_neg (fun z => c1 (c34.mp z)), if_pos (c39.mpr (by omega))]
          rw [this, od_bS]
          dsimp only
          rw [if_neg (by decide), if_neg (by decide), if_neg (by decide), if_pos rfl, d1, od_bS]
          exact ⟨H, ms, rfl, ct_of bB (fr _) d2⟩
        · rw [if_neg (fun z => c (Or.inl (c34.mp z))), if_neg (fun z => c (Or.inr (c39.mp z))), od_bS]
          dsimp only
          rw [if_pos rfl, dkS_194 b2 b5 hn6 hp bT, od_bS]
          exact ⟨_, ls, rfl, ct_of bB (fr _) (tx_sign hp bR a b c)⟩
      · rw [if_neg b, od_bS]
        dsimp only
        obtain ⟨H, d1, d2⟩ := tx_num b2 b5 hn6 hp bT bR a b
        rw [if_neg (by decide), if_neg (by decide), if_pos rfl, d1, od_bS]
        exact ⟨H, ls, rfl, ct_of bB (fr _) d2⟩
    · rw [if_neg a, od_bS]
      dsimp only
      rw [if_neg (by decide), if_pos rfl]
      have hd := dkS_190 (nn := nn) (F := bg_up (wq_up G 57 6 (1 + lc T p)) p (i + 1)) (ls := ls) (a := p) (n := n) hn6 b2 b5 (by omega) (fun j hj => by rw [(bT j hj).1, wm_b8b8]) bR hw (by omega) hn2 hm (by omega)
      rw [hd, od_bS]
      obtain ⟨ms, t⟩ := tx_name hp bT bR hm a
      exact ⟨_, ms, rfl, ct_of bB (fr _) t⟩
  · rw [if_neg (fun z => hp ((wd_slt (by omega) (by omega)).mp z)), od_upS, if_neg hp, wq_up_same]
    show ∃ H ms, (some ((0 : Nat), wq_up (wq_up (wq_up (wq_up G 57 6 (1 + lc T p)) 57 5 p) 57 3 p) 57 4 0)).bind _ = _ ∧ _
    rw [od_bS]
    dsimp only
    rw [if_neg (by decide), if_neg (by decide), if_neg (by decide), if_neg (by decide)]
    have hK : tk_K T n p = 6 := if_pos hp
    have fr4 : ∀ c j, (c = 57 → j < 3 ∨ 8 < j) → wq_up (wq_up (wq_up (wq_up G 57 6 (1 + lc T p)) 57 5 p) 57 3 p) 57 4 0 c j = G c j := fun c j h => by
      rw [wq_up_ne (fun z => by have := h z.1; omega), wq_up_ne (fun z => by have := h z.1; omega), wq_up_ne (fun z => by have := h z.1; omega), wq_up_ne (fun z => by have := h z.1; omega)]
    refine ⟨_, ls, rfl, ⟨?_, ?_, ?_, ?_⟩, fun z => absurd hK z.1, fun z => ?_, fun _ => ⟨rfl, fun j => fr4 9 j (by omega), fr4 2 11 (by decide)⟩, fun z => ?_, cs_ok_up hR ⟨fr4 2 8 (by decide), fr4 2 9 (by decide)⟩ (fun c h8 h9 => by funext j; exact fr4 c j (by omega)), fun c j hc h1 h2 => fr4 c j h2⟩
    · rw [wq_up_same]
      unfold tk_ty
      rw [hK]
      rfl
    · rw [wq_up_at (by decide)]
      exact e5
    · rw [wq_up_at (by decide), wq_up_at (by decide), wq_up_at (by decide), wq_up_same]
    · rw [wq_up_at (by decide)]
      exact e7
    · omega
    · omega
