/-! ===== 99p: small steps of both sides' states; the reference's runs from within a wait (wip/whole2/law99p.py) ===== -/
theorem cx_at_dn {p s : Nat} {b : List Nat} : ∀ {a : List Nat}, (∀ e ∈ a, e < 5) → cx_at (a ++ b) p s → cx_at b p s
  | [], _, h => h
  | e :: a, he, h => by
    obtain ⟨x, y, z, v⟩ := h
    refine cx_at_dn (a := a) (fun e h => he e (List.mem_cons_of_mem _ h)) ?_
    cases x with
    | nil =>
      exfalso
      have z1 := (List.cons.inj z).1
      have := he e (List.mem_cons_self ..)
      omega
    | cons e' x => exact ⟨x, y, (List.cons.inj z).2, v⟩
theorem bzF_up {F G : wq_F} {c j v : Nat} (h : bzF F G) (hc : ¬ ((c = 14 ∨ c = 15 ∨ c = 16 ∨ c = 18 ∨ c = 19 ∨ (29 ≤ c ∧ c ≤ 32)) ∨ (c = 0 ∧ (j = 50 ∨ j = 53)))) : bzF F (wq_up G c j v) := bzF_x h (fun d k hd => wq_up_ne (fun z => hc (by rw [← z.1, ← z.2]; exact hd)))
theorem bzF_em {F G : wq_F} {op a b ln : Nat} (h : bzF F G) : bzF F (pm_em G op a b ln) := bzF_x h (fun d k hd => pm_em_ne (by omega) (by omega))
theorem bzF_la {F G : wq_F} {k x y z : Nat} (h : bzF F G) : bzF F (pm_la G k x y z) := bzF_x h (fun d k hd => pm_la_ne (by omega) (by omega))
theorem bzF_jl {F G : wq_F} {J : List Nat} {v : Nat} (h : bzF F G) : bzF F (jl_up G 21 J v) := bzF_x h (fun d k hd => jl_ne (by omega))
theorem bzG_up {F G : wq_F} {c j v : Nat} (h : bzG F G) (hc : ¬ ((c = 19 ∨ c = 20 ∨ c = 22 ∨ c = 23 ∨ (60 ≤ c ∧ c ≤ 63) ∨ c = 66) ∨ (c = 59 ∧ (j = 3 ∨ j = 8)))) : bzG F (wq_up G c j v) := bzG_x h (fun d k hd => wq_up_ne (fun z => hc (by rw [← z.1, ← z.2]; exact hd)))
theorem bzG_em {F G : wq_F} {op a b ln : Nat} (h : bzG F G) : bzG F (pg_em G op a b ln) := bzG_x h (fun d k hd => pg_em_ne (by omega) (by omega))
theorem bzG_jl {F G : wq_F} {J : List Nat} {v : Nat} (h : bzG F G) : bzG F (jl_up G 14 J v) := bzG_x h (fun d k hd => jl_ne (by omega))
theorem bzG_fr {F G H : wq_F} (h : bzG F G) (hf : px_fr G H) : bzG F H := bzG_x h (fun d k hd => hf d k (by omega) (by omega) (by omega))
theorem bz_em {N np : Nat} {off voff ph : Nat → Nat} {cx : Nat → List Nat} {c : List Nat} {ls cs : List (List Nat)} {F G : wq_F} {op a b ln : Nat} (h : bz N off voff ph cx c np F ls G cs) : bz N off voff ph cx c np (pm_em F op a b ln) ls G cs := bz_F h (bzF_em (bzF_refl _))
theorem bz_la {N np : Nat} {off voff ph : Nat → Nat} {cx : Nat → List Nat} {c : List Nat} {ls cs : List (List Nat)} {F G : wq_F} {k x y z : Nat} (h : bz N off voff ph cx c np F ls G cs) : bz N off voff ph cx c np (pm_la F k x y z) ls G cs := bz_F h (bzF_la (bzF_refl _))
theorem bz_fu {N np : Nat} {off voff ph : Nat → Nat} {cx : Nat → List Nat} {c : List Nat} {ls cs : List (List Nat)} {F G : wq_F} {d j v : Nat} (h : bz N off voff ph cx c np F ls G cs) (hc : ¬ ((d = 14 ∨ d = 15 ∨ d = 16 ∨ d = 18 ∨ d = 19 ∨ (29 ≤ d ∧ d ≤ 32)) ∨ (d = 0 ∧ (j = 50 ∨ j = 53)))) : bz N off voff ph cx c np (wq_up F d j v) ls G cs := bz_F h (bzF_up (bzF_refl _) hc)
theorem bz_pg {N np : Nat} {off voff ph : Nat → Nat} {cx : Nat → List Nat} {c : List Nat} {ls cs : List (List Nat)} {F G : wq_F} {op a b ln : Nat} (h : bz N off voff ph cx c np F ls G cs) : bz N off voff ph cx c np F ls (pg_em G op a b ln) cs := bz_G h (bzG_em (bzG_refl _)) (fun l _ => pg_em_59 (by decide))
theorem bz_gu {N np : Nat} {off voff ph : Nat → Nat} {cx : Nat → List Nat} {c : List Nat} {ls cs : List (List Nat)} {F G : wq_F} {d j v : Nat} (h : bz N off voff ph cx c np F ls G cs) (hc : ¬ ((d = 19 ∨ d = 20 ∨ d = 22 ∨ d = 23 ∨ (60 ≤ d ∧ d ≤ 64) ∨ d = 66) ∨ (d = 59 ∧ (j = 3 ∨ j = 8)))) : bz N off voff ph cx c np F ls (wq_up G d j v) cs := bz_G h (bzG_up (bzG_refl _) (by omega)) (fun l _ => wq_up_cell (by omega))
theorem bz_nx {N np : Nat} {off voff ph : Nat → Nat} {cx : Nat → List Nat} {c : List Nat} {ls cs : List (List Nat)} {F G : wq_F} {H : wq_F} {ms : List (List Nat)} (h : bz N off voff ph cx c np F ls G cs) (hf : px_fr G H) (hp : st_pre cs ms) : bz N off voff ph cx c np F ls H ms := bz_s h (bzF_refl _) (bzG_fr (bzG_refl _) hf) (fun l _ => hf 64 l (by omega) (by omega) (by omega)) hp
/-- an instruction of the class with another height behind it -/
theorem bz_pu {N np : Nat} {off voff ph : Nat → Nat} {cx : Nat → List Nat} {c : List Nat} {ls cs : List (List Nat)} {F G : wq_F} {op a b ln v : Nat} {d : List Nat} (h : bz N off voff ph cx c np F ls G cs) (hv : v = hg d) (hat : ∀ k, voff (N - 1) ≤ k → k < voff N → cx_at c (G 61 (ph k)) (F 30 k) → cx_at d (G 61 (ph k)) (F 30 k)) (hd : ∀ e ∈ d, e < F 14 (G 62 (N - 1)) + 5) : bz N off voff ph cx d np F ls (wq_up (pg_em G op a b ln) 64 (N - 1) v) cs := bz_h h (bzG_up (bzG_em (bzG_refl _)) (by omega)) (fun l hl => by
  by_cases z : l = N - 1
  · rw [if_pos z, z, wq_up_same, hv]
  · rw [if_neg z, wq_up_at z, pg_em_59 (by decide)]) hat hd
theorem bz_hh {N np : Nat} {off voff ph : Nat → Nat} {cx : Nat → List Nat} {c : List Nat} {ls cs : List (List Nat)} {F G : wq_F} {v : Nat} {d : List Nat} (h : bz N off voff ph cx c np F ls G cs) (hv : v = hg d) (hat : ∀ k, voff (N - 1) ≤ k → k < voff N → cx_at c (G 61 (ph k)) (F 30 k) → cx_at d (G 61 (ph k)) (F 30 k)) (hd : ∀ e ∈ d, e < F 14 (G 62 (N - 1)) + 5) : bz N off voff ph cx d np F ls (wq_up G 64 (N - 1) v) cs := bz_h h (bzG_up (bzG_refl _) (by omega)) (fun l hl => by
  by_cases z : l = N - 1
  · rw [if_pos z, z, wq_up_same, hv]
  · rw [if_neg z, wq_up_at z]) hat hd
/-- values put on, values taken off -/
theorem bz_c0 {N np : Nat} {off voff ph : Nat → Nat} {cx : Nat → List Nat} {c : List Nat} {ls cs : List (List Nat)} {F G : wq_F} {e : Nat} (h : bz N off voff ph cx c np F ls G cs) (he : e < 5) : ∀ x ∈ e :: c, x < F 14 (G 62 (N - 1)) + 5 := fun x hx => by
  rcases List.mem_cons.mp hx with z | z
  · omega
  · exact bz_fr h x z
theorem bz_cd {N np : Nat} {off voff ph : Nat → Nat} {cx : Nat → List Nat} {c : List Nat} {ls cs : List (List Nat)} {F G : wq_F} {a b : List Nat} (h : bz N off voff ph cx c np F ls G cs) (hc : c = a ++ b) : ∀ x ∈ b, x < F 14 (G 62 (N - 1)) + 5 := fun x hx => bz_fr h x (by rw [hc]; exact List.mem_append_right _ hx)
theorem pm_f_4 {F : wq_F} {k p : Nat} : pm_f F k p 0 4 = k := by
  unfold pm_f
  rw [wq_up_at (by decide), wq_up_same]
theorem pm_f_5 {F : wq_F} {k p : Nat} : pm_f F k p 0 5 = p := by
  unfold pm_f
  rw [wq_up_same]
theorem pm_f_n {F : wq_F} {k p j : Nat} (h : ¬ j = 4) (h2 : ¬ j = 5) : pm_f F k p 0 j = F 0 j := by
  unfold pm_f
  rw [wq_up_at h2, wq_up_at h]
/-! the reference from within a wait: m is what is left of it -/
def rgo (nn : Nat) (A : wq_F) (m : Option (Nat × wq_F)) (H : wq_F) : Prop := ∃ r K, m = some (r, K) ∧ ¬ r = 0 ∧ K 0 4 = 0 ∧ rm_fr A K ∧ rm_to nn K H ∧ rm_fr K H
def rba (nn : Nat) (A : wq_F) (m : Option (Nat × wq_F)) (k p : Nat) : Prop := ∃ r K, m = some (r, K) ∧ rm_fr A K ∧ (((r = 0 ∨ ¬ K 0 4 = 0) ∧ K 0 4 = k ∧ K 0 5 = p ∧ K 0 41 < 13999) ∨ (¬ r = 0 ∧ K 0 4 = 0 ∧ rm_out nn k p K))
theorem od_bI {m : Option (Nat × wq_F)} : (m.bind fun y => some (y.1, y.2)) = m := by
  cases m with
  | none => rfl
  | some y => rfl
theorem ry_go {nn : Nat} {T : Nat → Nat} {n M i t w nw np : Nat} {ls : List (List Nat)} {e : Nat × Nat × Nat × Nat} {W : List (Nat × Nat × Nat × Nat)} {L : List (Nat × Nat)} {P : List (Nat × Nat × Nat)} {F H : wq_F} (h : ry T n M i ls t w nw np (e :: W) L P F) (h4 : W.length < 4000) (hm : rgo nn F (dk_32 nn (wq_up F 0 46 W.length) e.1 e.2.1 e.2.2.1 e.2.2.2) H) : rm_to nn F H ∧ rm_fr F H := by
  obtain ⟨r, K, e1, e2, e3, e4, e5, e6⟩ := hm
  exact ⟨rm_trans (ry_step h h4 e1 e2 e3) e5, rm_fr_trans e4 e6⟩
theorem ry_ba {nn k p : Nat} {T : Nat → Nat} {n M i t w nw np : Nat} {ls : List (List Nat)} {e : Nat × Nat × Nat × Nat} {W : List (Nat × Nat × Nat × Nat)} {L : List (Nat × Nat)} {P : List (Nat × Nat × Nat)} {F : wq_F} (h : ry T n M i ls t w nw np (e :: W) L P F) (h4 : W.length < 4000) (hm : rba nn F (dk_32 nn (wq_up F 0 46 W.length) e.1 e.2.1 e.2.2.1 e.2.2.2) k p) : rm_out nn k p F := by
  obtain ⟨r, K, e1, e2, e3⟩ := hm
  rcases e3 with ⟨e3, e4, e5, e6⟩ | ⟨e3, e4, e5⟩
  · exact ry_fail h h4 e1 e3 e4 e5 e2 e6
  · exact rm_to_out (ry_step h h4 e1 e3 e4) e2 e5
theorem rgo_fr {nn : Nat} {A B H : wq_F} {m : Option (Nat × wq_F)} (h : rgo nn B m H) (hf : rm_fr A B) : rgo nn A m H := by
  obtain ⟨r, K, e1, e2, e3, e4, e5, e6⟩ := h
  exact ⟨r, K, e1, e2, e3, rm_fr_trans hf e4, e5, e6⟩
theorem rba_fr {nn k p : Nat} {A B : wq_F} {m : Option (Nat × wq_F)} (h : rba nn B m k p) (hf : rm_fr A B) : rba nn A m k p := by
  obtain ⟨r, K, e1, e2, e3⟩ := h
  exact ⟨r, K, e1, rm_fr_trans hf e2, e3⟩
/-- it goes on behind -/
theorem rgo_t {nn : Nat} {A H I : wq_F} {m : Option (Nat × wq_F)} (h : rgo nn A m H) (g : rm_to nn H I ∧ rm_fr H I) : rgo nn A m I := by
  obtain ⟨r, K, e1, e2, e3, e4, e5, e6⟩ := h
  exact ⟨r, K, e1, e2, e3, e4, rm_trans e5 g.1, rm_fr_trans e6 g.2⟩
theorem rgo_o {nn k p : Nat} {A H : wq_F} {m : Option (Nat × wq_F)} (h : rgo nn A m H) (g : rm_out nn k p H) : rba nn A m k p := by
  obtain ⟨r, K, e1, e2, e3, e4, e5, e6⟩ := h
  exact ⟨r, K, e1, e4, Or.inr ⟨e2, e3, rm_to_out e5 e6 g⟩⟩
/-- it refuses here -/
theorem rba_f {nn k p : Nat} {A F : wq_F} {m : Option (Nat × wq_F)} (e : m = some (0, pm_f F k p)) (hf : rm_fr A F) (h41 : F 0 41 < 13999) : rba nn A m k p := ⟨0, pm_f F k p, e, rm_fr_f hf, Or.inl ⟨Or.inl rfl, pm_f_4, pm_f_5, by rw [pm_f_n (by decide) (by decide)]; exact h41⟩⟩
/-- this wait is over -/
theorem rgo_i {nn r : Nat} {A K : wq_F} {m : Option (Nat × wq_F)} (e : m = some (r, K)) (hr : ¬ r = 0) (h4 : K 0 4 = 0) (hf : rm_fr A K) : rgo nn A m K := ⟨r, K, e, hr, h4, hf, rm_refl K, rm_fr_refl K⟩
theorem rba_i {nn r k p : Nat} {A K : wq_F} {m : Option (Nat × wq_F)} (e : m = some (r, K)) (hr : r = 0 ∨ ¬ K 0 4 = 0) (hk : K 0 4 = k) (hp : K 0 5 = p) (hf : rm_fr A K) (h41 : K 0 41 < 13999) : rba nn A m k p := ⟨r, K, e, hf, Or.inl ⟨hr, hk, hp, h41⟩⟩
/-- this wait is over, the next ones go on or fail -/
theorem rgo_n {nn r : Nat} {A K H : wq_F} {m : Option (Nat × wq_F)} (e : m = some (r, K)) (hr : ¬ r = 0) (h4 : K 0 4 = 0) (hf : rm_fr A K) (g : rm_to nn K H ∧ rm_fr K H) : rgo nn A m H := ⟨r, K, e, hr, h4, hf, g.1, g.2⟩
theorem rba_n {nn r k p : Nat} {A K : wq_F} {m : Option (Nat × wq_F)} (e : m = some (r, K)) (hr : ¬ r = 0) (h4 : K 0 4 = 0) (hf : rm_fr A K) (g : rm_out nn k p K) : rba nn A m k p := ⟨r, K, e, hf, Or.inr ⟨hr, h4, g⟩⟩
