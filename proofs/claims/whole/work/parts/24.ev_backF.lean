/-! ===== 24: behind a call of an evaluated method, with a world beside it that the callee doesn't know ===== -/
section EVF
variable {p : Program} {l : Launch} {e : Env} {R : Room} {s : State} {m : MethodId} {args : Array Value} {below : List Frame} {meth : Method} {c : Code} {H : Heap} {locs : List Loc} {cells slots : Nat} {Q : State → Prop}
variable {D : va_G} {cl : List vw_C} {tys : List (ClassId × FieldType)} {A : Nat → Prop} {H0 : Heap} {ws wf : va_W} {oc : String}
theorem ev_backF {ka : ev_KA} {mc ms pc sz : Nat} {ls : Array Slot} {st0 rest : List Value} {ads : List Nat} {ret : Option Nat} {h' : ev_H} {a : Array Value} (hr : va_Run p l e R s m args below meth c H locs cells slots mc ms (F0 m pc ls st0) rest (ev_Qc D cl ka oc [] ws tys ads sz ret h' a) (va_A ws sz)) (hsz : H.size = sz) (hP : va_P D cl (ws ++ wf) H) (hD : va_D A (ws ++ wf)) (hS : va_S A H0 H locs) (hA : ∀ q, H0.size ≤ q → A q)
    (kk : ∀ (l2 : List Nat) (t2 : List (ClassId × FieldType)) (ws' : va_W) (v : Option Value) (H' : Heap) (locs' : List Loc), ev_rv ka (ads ++ l2) ret v → ev_M ka oc (tys ++ t2) (ads ++ l2) h' ws' → va_K D cl (tys ++ t2) s → va_P D cl (ws' ++ wf) H' → va_D A (ws' ++ wf) → va_S A H0 H' locs' → W p l e R s m args below meth c H' locs' (cells + mc) (slots + ms) Q (F0 m (pc + 3) ls (v.toList ++ rest))) : W p l e R s m args below meth c H locs cells slots Q (F0 m pc ls st0) := by
  intro T hT X
  obtain ⟨v, st₀, t, T', L, h0, X', hL, e1, e2, ⟨⟨l2, t2, ws', v', hv, g1, g2, g3, g4, g5⟩, hz, hk⟩, st⟩ := hr T hT X
  cases hv
  have hF : ∀ q, va_A ws sz q → A q := by
    intro q h
    rcases h with ⟨k, e, h⟩ | h
    · exact hD.2 k (q, e) (by rw [List.getElem?_append_left (List.getElem?_eq_some_iff.mp h).1]; exact h)
    · exact hA q (Nat.le_trans hS.1 (by rw [hsz]; exact h))
  rw [h0] at hz hk
  have hvm : s.vm.Alike t.vm := by rw [← e2]; exact X'.warmed.alike
  have hlt : ∀ (k : Nat) (q : Nat × va_E), wf[k]? = some q → q.1 < H.size := fun k q hk => (hP.ev_r k q hk).lt
  have hno : ∀ (k : Nat) (q : Nat × va_E), wf[k]? = some q → ¬ va_A ws sz q.1 := by
    intro k q hk h
    rcases h with ⟨j, e, hj⟩ | h
    · have h1 : (ws ++ wf)[j]? = some (q.1, e) := by rw [List.getElem?_append_left (List.getElem?_eq_some_iff.mp hj).1]; exact hj
      have h2 : (ws ++ wf)[ws.length + k]? = some q := by rw [List.getElem?_append_right (Nat.le_add_right _ _), Nat.add_sub_cancel_left]; exact hk
      have h3 := hD.1 _ _ _ _ h1 h2 rfl
      have h4 := (List.getElem?_eq_some_iff.mp hj).1
      omega
    · have := hlt k q hk
      omega
  have hPf : va_P D cl wf T'.heap := hP.ev_r.kept (fun k q hq => by rw [e1]; exact hk q.1 (hlt k q hq) (hno k q hq))
  have hP' : va_P D cl (ws' ++ wf) T'.heap := va_P.app (by rw [e1]; exact g3) hPf
  have hD' : va_D A (ws' ++ wf) := va_D.app (g5.weaken (fun k q _ h => hF q.1 h)) hD.ev_r (fun i j x y hx hy hxy => hno j y hy (by rw [← hxy]; exact g5.2 i x hx))
  obtain ⟨t3, a1, b1⟩ := kk l2 t2 ws' v T'.heap (locs ++ L) g1 g2 (va_K.moved hvm.symm g4) hP' hD'
    ⟨Nat.le_trans hS.1 (by rw [e1]; exact hz), fun q h1 h2 => by rw [e1, hk q (Nat.lt_of_lt_of_le h1 hS.1) (fun z => h2 (hF q z))]; exact hS.2.1 q h1 h2, fun q hq => by
      rcases List.mem_append.mp hq with h | h
      · exact hS.2.2 q h
      · exact hF _ (hL q h)⟩ T' rfl X'
  exact ⟨t3, st t3 a1, b1⟩
end EVF
