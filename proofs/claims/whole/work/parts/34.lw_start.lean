/-! ===== 34: the law's start: its classes, what throws ask, the two objects (by wip/p1/law1.py) ===== -/
theorem lw_Kc {args : Array Value} {s : State} (hts : ∀ w ∈ lw_tbl, w.before args s = true) : ∀ c : Nat, c < 15 → ∃ q : ClassId × (Nat → Nat), ∀ r, al_cl[c]? = some r → u_Kn s r.1 r.2.1 r.2.2 q.1 q.2
  | 0, _ => by
    obtain ⟨a, b, h⟩ := u_known (ws := lw_tbl) (C := "TableTongueModel") (n := 160) hts (fun w hw => al_W0t w ((al_Cls.2 0 "TableTongueModel" _ _ rfl).1 w hw)) (hts _ (List.mem_of_getElem? (i := 2958) (by decide +kernel)))
    exact ⟨(a, b), fun r hr => by cases hr; exact h⟩
  | 1, _ => by
    obtain ⟨a, b, h⟩ := u_known (ws := lw_tbl) (C := "java/lang/String") (n := 4) hts (fun w hw => al_W0t w ((al_Cls.2 1 "java/lang/String" _ _ rfl).1 w hw)) (hts _ (List.mem_of_getElem? (i := 1107) (by decide +kernel)))
    exact ⟨(a, b), fun r hr => by cases hr; exact h⟩
  | 2, _ => by
    obtain ⟨a, b, h⟩ := u_known (ws := lw_tbl) (C := "java/lang/String") (n := 4) hts (fun w hw => al_W0t w ((al_Cls.2 2 "java/lang/String" _ _ rfl).1 w hw)) (hts _ (List.mem_of_getElem? (i := 1107) (by decide +kernel)))
    exact ⟨(a, b), fun r hr => by cases hr; exact h⟩
  | 3, _ => by
    obtain ⟨a, b, h⟩ := u_known (ws := lw_tbl) (C := "TableTongue") (n := 12) hts (fun w hw => al_W0t w ((al_Cls.2 3 "TableTongue" _ _ rfl).1 w hw)) (hts _ (List.mem_of_getElem? (i := 429) (by decide +kernel)))
    exact ⟨(a, b), fun r hr => by cases hr; exact h⟩
  | 4, _ => by
    obtain ⟨a, b, h⟩ := u_known (ws := lw_tbl) (C := "TableTongue$Strings") (n := 16) hts (fun w hw => al_W0t w ((al_Cls.2 4 "TableTongue$Strings" _ _ rfl).1 w hw)) (hts _ (List.mem_of_getElem? (i := 437) (by decide +kernel)))
    exact ⟨(a, b), fun r hr => by cases hr; exact h⟩
  | 5, _ => by
    obtain ⟨a, b, h⟩ := u_known (ws := lw_tbl) (C := "TableTongue$Program") (n := 15) hts (fun w hw => al_W0t w ((al_Cls.2 5 "TableTongue$Program" _ _ rfl).1 w hw)) (hts _ (List.mem_of_getElem? (i := 571) (by decide +kernel)))
    exact ⟨(a, b), fun r hr => by cases hr; exact h⟩
  | 6, _ => by
    obtain ⟨a, b, h⟩ := u_known (ws := lw_tbl) (C := "TableTongue$Tables") (n := 17) hts (fun w hw => al_W0t w ((al_Cls.2 6 "TableTongue$Tables" _ _ rfl).1 w hw)) (hts _ (List.mem_of_getElem? (i := 648) (by decide +kernel)))
    exact ⟨(a, b), fun r hr => by cases hr; exact h⟩
  | 7, _ => by
    obtain ⟨a, b, h⟩ := u_known (ws := lw_tbl) (C := "TableTongue$Objects") (n := 12) hts (fun w hw => al_W0t w ((al_Cls.2 7 "TableTongue$Objects" _ _ rfl).1 w hw)) (hts _ (List.mem_of_getElem? (i := 727) (by decide +kernel)))
    exact ⟨(a, b), fun r hr => by cases hr; exact h⟩
  | 8, _ => by
    obtain ⟨a, b, h⟩ := u_known (ws := lw_tbl) (C := "TableTongue$Part") (n := 16) hts (fun w hw => al_W0t w ((al_Cls.2 8 "TableTongue$Part" _ _ rfl).1 w hw)) (hts _ (List.mem_of_getElem? (i := 734) (by decide +kernel)))
    exact ⟨(a, b), fun r hr => by cases hr; exact h⟩
  | 9, _ => by
    obtain ⟨a, b, h⟩ := u_known (ws := lw_tbl) (C := "TableTongue$Tokens") (n := 9) hts (fun w hw => al_W0t w ((al_Cls.2 9 "TableTongue$Tokens" _ _ rfl).1 w hw)) (hts _ (List.mem_of_getElem? (i := 877) (by decide +kernel)))
    exact ⟨(a, b), fun r hr => by cases hr; exact h⟩
  | 10, _ => by
    obtain ⟨a, b, h⟩ := u_known (ws := lw_tbl) (C := "TableTongue$Parser") (n := 13) hts (fun w hw => al_W0t w ((al_Cls.2 10 "TableTongue$Parser" _ _ rfl).1 w hw)) (hts _ (List.mem_of_getElem? (i := 875) (by decide +kernel)))
    exact ⟨(a, b), fun r hr => by cases hr; exact h⟩
  | 11, _ => by
    obtain ⟨a, b, h⟩ := u_known (ws := lw_tbl) (C := "TableTongue$Scopes") (n := 12) hts (fun w hw => al_W0t w ((al_Cls.2 11 "TableTongue$Scopes" _ _ rfl).1 w hw)) (hts _ (List.mem_of_getElem? (i := 920) (by decide +kernel)))
    exact ⟨(a, b), fun r hr => by cases hr; exact h⟩
  | 12, _ => by
    obtain ⟨a, b, h⟩ := u_known (ws := lw_tbl) (C := "TableTongue$Gathering") (n := 15) hts (fun w hw => al_W0t w ((al_Cls.2 12 "TableTongue$Gathering" _ _ rfl).1 w hw)) (hts _ (List.mem_of_getElem? (i := 1018) (by decide +kernel)))
    exact ⟨(a, b), fun r hr => by cases hr; exact h⟩
  | 13, _ => by
    obtain ⟨a, b, h⟩ := u_known (ws := lw_tbl) (C := "TableTongue$Machine") (n := 19) hts (fun w hw => al_W0t w ((al_Cls.2 13 "TableTongue$Machine" _ _ rfl).1 w hw)) (hts _ (List.mem_of_getElem? (i := 1073) (by decide +kernel)))
    exact ⟨(a, b), fun r hr => by cases hr; exact h⟩
  | 14, _ => by
    obtain ⟨a, b, h⟩ := u_known (ws := lw_tbl) (C := "TableTongue$Library") (n := 16) hts (fun w hw => al_W0t w ((al_Cls.2 14 "TableTongue$Library" _ _ rfl).1 w hw)) (hts _ (List.mem_of_getElem? (i := 1079) (by decide +kernel)))
    exact ⟨(a, b), fun r hr => by cases hr; exact h⟩
  | n + 15, h => absurd h (by omega)
theorem lw_K0 {args : Array Value} {s : State} (hts : ∀ w ∈ lw_tbl, w.before args s = true) : ∃ D : va_G, va_K D al_cl [] s := by
  have h0 : ∀ c : Nat, ∃ q : ClassId × (Nat → Nat), ∀ r, al_cl[c]? = some r → u_Kn s r.1 r.2.1 r.2.2 q.1 q.2 := by
    intro c
    by_cases hc : c < 15
    · exact lw_Kc hts c hc
    · refine ⟨(0, fun _ => 0), fun r hr => ?_⟩
      rw [List.getElem?_eq_none (show al_cl.length ≤ c from Nat.not_lt.mp hc)] at hr
      cases hr
  obtain ⟨ad, had⟩ := Classical.axiomOfChoice h0
  exact ⟨(fun c => (ad c).1, fun c => (ad c).2), fun c q hq => had c q hq, fun k q hk => by cases hk⟩
theorem lw_E0 {args : Array Value} {s : State} {A : Nat → Prop} (hts : ∀ w ∈ lw_tbl, w.before args s = true) (hg : (Jvm.Cond.and given_1 narrow_1).before args s = true) (hA : ∀ a : Nat, a < s.heap.size → ¬ A a) : lw_E A s :=
  ⟨vx_Zqof (hts _ (List.mem_of_getElem? (i := 1144) (by decide +kernel))) (hts _ (List.mem_of_getElem? (i := 412) (by decide +kernel))) (flat_of_before _ hg _ (List.mem_of_getElem? (i := 9) (by decide +kernel))) hA,
   vx_Zqof (hts _ (List.mem_of_getElem? (i := 1146) (by decide +kernel))) (hts _ (List.mem_of_getElem? (i := 412) (by decide +kernel))) (flat_of_before _ hg _ (List.mem_of_getElem? (i := 10) (by decide +kernel))) hA,
   fun w hw hc => va_Nw.of (lw_onT hc) (hts w hw)⟩
theorem lw_and15 (x : Int32) : ∃ k : Nat, k < 16 ∧ x &&& 15 = nI k := by
  refine ⟨(x &&& 15).toBitVec.toNat, ?_, ?_⟩
  · have h : (x &&& 15).toBitVec = x.toBitVec &&& 15#32 := rfl
    rw [h, BitVec.toNat_and]
    exact Nat.lt_of_le_of_lt Nat.and_le_right (by decide)
  · apply Int32.toBitVec_inj.mp
    show _ = BitVec.ofNat 32 _
    rw [BitVec.ofNat_toNat, BitVec.setWidth_eq]
set_option maxRecDepth 100000 in
theorem lw_x {ka : ev_KA} {tys : List (ClassId × FieldType)} {q : Nat} {l2 : List Nat} {ws : va_W} (hM : ev_M ka "TableTongue$Part" tys (q :: l2) al_h11 ws) : ∃ (fs : List Value) (q1 : Nat) (cB : ClassId) (f : Nat → Int32) (t0 : Nat), ws[0]? = some (q, .inr (3, fs)) ∧ ws[1]? = some (q1, .inl (cB, 6000, .inl f)) ∧ tys[t0]? = some (cB, .byte) ∧ fs.length = 12 ∧ fs[0]? = some (.ref q1) ∧ fs[8]? = some (.int 0) ∧ fs[9]? = some (.int 0) ∧ fs[10]? = some (.int (-1)) ∧ fs[11]? = some (.int (-1)) := by
  obtain ⟨a0, h0, z0, z8, z9, z10, z11⟩ : ∃ a0 : Nat, al_h11[0]? = some (3, 12, a0) ∧ ev_at a0 0 = 36893488147419103233 ∧ ev_at a0 8 = 0 ∧ ev_at a0 9 = 0 ∧ ev_at a0 10 = 4294967295 ∧ ev_at a0 11 = 4294967295 := ⟨_, rfl, by decide +kernel, by decide +kernel, by decide +kernel, by decide +kernel, by decide +kernel⟩
  obtain ⟨a1, h1⟩ : ∃ a1 : Nat, al_h11[1]? = some (1001, 6000, a1) := ⟨_, rfl⟩
  obtain ⟨p0, e0, k1, k2, k3⟩ := hM.2.2 0 _ h0
  cases k1
  obtain ⟨p1, e1, m1, m2, m3⟩ := hM.2.2 1 _ h1
  rcases m3 with ⟨y, -⟩ | ⟨-, -, t0, cB, f, u1, u2, -⟩ | ⟨y, -⟩ | ⟨y, -⟩
  · exact absurd y (by dsimp only; decide)
  · rcases k3 with ⟨-, fs, v1, v2, v3⟩ | ⟨y, -⟩ | ⟨y, -⟩ | ⟨y, -⟩
    · have hi : ∀ j x, j < 12 → ev_at a0 j = x → x < 4294967296 → fs[j]? = some (.int (nI x)) := by
        intro j x hj hx hlt
        obtain ⟨v, g1, g2⟩ := v3 j hj
        have g2 : ev_v ka (q :: l2) (ev_at a0 j) v := g2
        rw [hx] at g2
        obtain ⟨rfl, -⟩ := g2.i (Nat.blt_eq.mpr hlt)
        exact g1
      have hr : fs[0]? = some (.ref p1) := by
        obtain ⟨v, g1, g2⟩ := v3 0 (show 0 < 12 by decide)
        have g2 : ev_v ka (q :: l2) (ev_at a0 0) v := g2
        rw [z0] at g2
        obtain ⟨q9, g3, rfl⟩ := g2.r (by decide)
        have g3 : (q :: l2)[1]? = some q9 := g3
        rw [m1] at g3
        cases g3
        exact g1
      exact ⟨fs, p1, cB, f, t0, by rw [← v1]; exact k2, by rw [← u2]; exact m2, u1, v2, hr, hi 8 0 (by decide) z8 (by decide), hi 9 0 (by decide) z9 (by decide), hi 10 _ (by decide) z10 (by decide), hi 11 _ (by decide) z11 (by decide)⟩
    · exact absurd y (by dsimp only; decide)
    · exact absurd y (by dsimp only; decide)
    · exact absurd y (by dsimp only; decide)
  · exact absurd y (by dsimp only; decide)
  · exact absurd y (by dsimp only; decide)
set_option maxRecDepth 100000 in
theorem lw_m {ka : ev_KA} {tys : List (ClassId × FieldType)} {q : Nat} {l2 : List Nat} {ws : va_W} (hM : ev_M ka "TableTongue$Part" tys (q :: l2) al_h19 ws) : ∃ (fs : List Value) (q1 : Nat) (cB : ClassId) (f : Nat → Int32) (t0 : Nat), ws[0]? = some (q, .inr (0, fs)) ∧ ws[1]? = some (q1, .inl (cB, 6000, .inl f)) ∧ tys[t0]? = some (cB, .int) ∧ fs.length = 160 ∧ fs[1]? = some (.ref q1) ∧ fs[0]? = some (.int 0) ∧ fs[2]? = some (.int 0) ∧ fs[3]? = some (.int 0) ∧ fs[4]? = some (.int 0) := by
  obtain ⟨a0, h0, z1, z0, z2, z3, z4⟩ : ∃ a0 : Nat, al_h19[0]? = some (0, 160, a0) ∧ ev_at a0 1 = 36893488147419103233 ∧ ev_at a0 0 = 0 ∧ ev_at a0 2 = 0 ∧ ev_at a0 3 = 0 ∧ ev_at a0 4 = 0 := ⟨_, rfl, by decide +kernel, by decide +kernel, by decide +kernel, by decide +kernel, by decide +kernel⟩
  obtain ⟨a1, h1⟩ : ∃ a1 : Nat, al_h19[1]? = some (1000, 6000, a1) := ⟨_, rfl⟩
  obtain ⟨p0, e0, k1, k2, k3⟩ := hM.2.2 0 _ h0
  cases k1
  obtain ⟨p1, e1, m1, m2, m3⟩ := hM.2.2 1 _ h1
  rcases m3 with ⟨y, -⟩ | ⟨-, -, t0, cB, f, u1, u2, -⟩ | ⟨y, -⟩ | ⟨y, -⟩
  · exact absurd y (by dsimp only; decide)
  · rcases k3 with ⟨-, fs, v1, v2, v3⟩ | ⟨y, -⟩ | ⟨y, -⟩ | ⟨y, -⟩
    · have hi : ∀ j x, j < 160 → ev_at a0 j = x → x < 4294967296 → fs[j]? = some (.int (nI x)) := by
        intro j x hj hx hlt
        obtain ⟨v, g1, g2⟩ := v3 j hj
        have g2 : ev_v ka (q :: l2) (ev_at a0 j) v := g2
        rw [hx] at g2
        obtain ⟨rfl, -⟩ := g2.i (Nat.blt_eq.mpr hlt)
        exact g1
      have hr : fs[1]? = some (.ref p1) := by
        obtain ⟨v, g1, g2⟩ := v3 1 (show 1 < 160 by decide)
        have g2 : ev_v ka (q :: l2) (ev_at a0 1) v := g2
        rw [z1] at g2
        obtain ⟨q9, g3, rfl⟩ := g2.r (by decide)
        have g3 : (q :: l2)[1]? = some q9 := g3
        rw [m1] at g3
        cases g3
        exact g1
      exact ⟨fs, p1, cB, f, t0, by rw [← v1]; exact k2, by rw [← u2]; exact m2, u1, v2, hr, hi 0 0 (by decide) z0 (by decide), hi 2 0 (by decide) z2 (by decide), hi 3 0 (by decide) z3 (by decide), hi 4 0 (by decide) z4 (by decide)⟩
    · exact absurd y (by dsimp only; decide)
    · exact absurd y (by dsimp only; decide)
    · exact absurd y (by dsimp only; decide)
  · exact absurd y (by dsimp only; decide)
  · exact absurd y (by dsimp only; decide)
