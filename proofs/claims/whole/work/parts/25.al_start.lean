/-! ===== 25: what the law's start says of the constants (by wip/whole2/cf3.py) ===== -/
def al_kf (own : String) (k : Nat) : Term := .field (.string own k) "java/lang/String" "value" "[B"
def al_kw (own : String) (k n B : Nat) : List Jvm.Cond := [.exactly (.string own k) "java/lang/String", .eq (.field (.string own k) "java/lang/String" "coder" "B") (.int 0), .arrayOf (al_kf own k) .byte, .eq (.length (al_kf own k)) (.int (Int32.ofNat n))] ++ (List.range n).map (fun j => .eq (.elem (al_kf own k) (.int (Int32.ofNat j))) (.int (nI (ev_at B j))))
theorem al_kof {args : Array Value} {s : State} {A : Nat → Prop} {own tx : String} {k n B : Nat} (hw : ∀ w ∈ al_kw own k n B, w.before args s = true) (hr : (Cond.stringRef own k tx).before args s = true) (hn : n < 2 ^ 31) (hA : ∀ a : Nat, a < s.heap.size → ¬ A a) :
    ∃ q : Nat × Nat, va_O "java/lang/String" q.1 A s s.heap ∧ va_OF "java/lang/String" "coder" "B" (.int 0) q.1 A s s.heap ∧ va_OF "java/lang/String" "value" "[B" (.ref q.2) q.1 A s s.heap ∧ va_T .byte q.2 n (fun j => .int (nI (ev_at B j))) A s s.heap ∧ vk_R own k tx q.1 s := by
  have w0 := hw (.exactly (.string own k) "java/lang/String") (List.mem_append_left _ List.mem_cons_self)
  have w1 := hw (.eq (.field (.string own k) "java/lang/String" "coder" "B") (.int 0)) (List.mem_append_left _ (List.mem_cons_of_mem _ List.mem_cons_self))
  have w2 := hw (.arrayOf (al_kf own k) .byte) (List.mem_append_left _ (List.mem_cons_of_mem _ (List.mem_cons_of_mem _ List.mem_cons_self)))
  have w3 := hw (.eq (.length (al_kf own k)) (.int (Int32.ofNat n))) (List.mem_append_left _ (List.mem_cons_of_mem _ (List.mem_cons_of_mem _ (List.mem_cons_of_mem _ List.mem_cons_self))))
  have w4 : ∀ j : Nat, j < n → (Cond.eq (.elem (al_kf own k) (.int (Int32.ofNat j))) (.int (nI (ev_at B j)))).before args s = true := fun j hj => hw _ (List.mem_append_right _ (List.mem_map.mpr ⟨j, List.mem_range.mpr hj, rfl⟩))
  obtain ⟨a, c, cA, kA, q1, q2, q3, q4, q5, q6, -⟩ := Cond.exactly_spec (args := args) (first := s) (o := none) (s := s) (idx := []) (t := .string own k) (cls := "java/lang/String") w0
  obtain ⟨t, ht, hT⟩ := va_Tof (f := fun j => .int (nI (ev_at B j))) (A := A) hn w2 (va_eqt w3) (fun j hj => va_eqt (w4 j hj)) hA
  exact ⟨(a, t), ⟨cA, q3, q5, by rw [q6]; exact q2, hA a (Array.getElem?_eq_some_iff.mp q3).1⟩, vk_OFof q1 (va_eqt w1) hA, vk_OFof q1 ht hA, hT, vk_R.of hr q1⟩
theorem al_slice {l t : List Jvm.Cond} {a b : Nat} (h : l = (t.drop a).take b) : ∀ w ∈ l, w ∈ t := fun w hw => List.mem_of_mem_drop (List.mem_of_mem_take (h ▸ hw))
set_option maxRecDepth 100000 in
theorem al_kw0 : al_kw "TableTongue$Strings" 38 54 (al_dfl 2000) = ((flatC (Cond.and given_1 narrow_1)).drop 270).take 58 := by decide +kernel
set_option maxRecDepth 100000 in
theorem al_kw1 : al_kw "TableTongue$Strings" 44 53 (al_dfl 2001) = ((flatC (Cond.and given_1 narrow_1)).drop 328).take 57 := by decide +kernel
set_option maxRecDepth 100000 in
theorem al_kw2 : al_kw "TableTongue$Strings" 46 89 (al_dfl 2002) = ((flatC (Cond.and given_1 narrow_1)).drop 385).take 93 := by decide +kernel
set_option maxRecDepth 100000 in
theorem al_kw3 : al_kw "TableTongue$Strings" 48 55 (al_dfl 2003) = ((flatC (Cond.and given_1 narrow_1)).drop 478).take 59 := by decide +kernel
set_option maxRecDepth 100000 in
theorem al_kw4 : al_kw "TableTongue$Parser" 41 4 (al_dfl 2004) = ((flatC (Cond.and given_1 narrow_1)).drop 537).take 8 := by decide +kernel
set_option maxRecDepth 100000 in
theorem al_kw5 : al_kw "TableTongue$Library" 41 90 (al_dfl 2005) = ((flatC (Cond.and given_1 narrow_1)).drop 545).take 94 := by decide +kernel
set_option maxRecDepth 100000 in
theorem al_kw6 : al_kw "TableTongue$Library" 47 86 (al_dfl 2006) = ((flatC (Cond.and given_1 narrow_1)).drop 655).take 90 := by decide +kernel
set_option maxRecDepth 100000 in
theorem al_kw7 : al_kw "TableTongue$Library" 49 88 (al_dfl 2007) = ((flatC (Cond.and given_1 narrow_1)).drop 745).take 92 := by decide +kernel
set_option maxRecDepth 100000 in
theorem al_kw8 : al_kw "TableTongue$Library" 51 20 (al_dfl 2008) = ((flatC (Cond.and given_1 narrow_1)).drop 837).take 24 := by decide +kernel
set_option maxRecDepth 100000 in
theorem al_kw9 : al_kw "TableTongue$Library" 53 4 (al_dfl 2009) = ((flatC (Cond.and given_1 narrow_1)).drop 861).take 8 := by decide +kernel
set_option maxRecDepth 100000 in
theorem al_kw10 : al_kw "TableTongue$Library" 59 4 (al_dfl 2010) = ((flatC (Cond.and given_1 narrow_1)).drop 869).take 8 := by decide +kernel
set_option maxRecDepth 100000 in
theorem al_kw11 : al_kw "TableTongue$Library" 61 4 (al_dfl 2011) = ((flatC (Cond.and given_1 narrow_1)).drop 877).take 8 := by decide +kernel
set_option maxRecDepth 100000 in
theorem al_kw12 : al_kw "TableTongue$Library" 63 1 (al_dfl 2012) = ((flatC (Cond.and given_1 narrow_1)).drop 885).take 5 := by decide +kernel
set_option maxRecDepth 100000 in
theorem al_kw13 : al_kw "TableTongue$Tokens" 89 21 (al_dfl 2013) = ((flatC (Cond.and given_1 narrow_1)).drop 890).take 25 := by decide +kernel
def al_kP (s : State) (A : Nat → Prop) (i : Nat) (q : Nat × Nat) : Prop := va_O "java/lang/String" q.1 A s s.heap ∧ va_OF "java/lang/String" "coder" "B" (.int 0) q.1 A s s.heap ∧ va_OF "java/lang/String" "value" "[B" (.ref q.2) q.1 A s s.heap ∧ va_T .byte q.2 (al_dfl (3000 + i)) (fun j => .int (nI (ev_at (al_dfl (2000 + i)) j))) A s s.heap ∧ vk_R (ev_kOwn al_tyf i) (al_dfl (4000 + i)) (ev_kTx al_tyf i) q.1 s
set_option maxRecDepth 100000 in
theorem al_kall {args : Array Value} {s : State} {A : Nat → Prop} (hg : (Cond.and given_1 narrow_1).before args s = true) (ht : ∀ w ∈ lw_tbl, w.before args s = true) (hA : ∀ a : Nat, a < s.heap.size → ¬ A a) : ∀ i : Nat, i < 14 → ∃ q : Nat × Nat, al_kP s A i q
  | 0, _ => al_kof (own := "TableTongue$Strings") (k := 38) (n := 54) (B := al_dfl 2000) (fun w hw => flat_of_before _ hg w (al_slice al_kw0 w hw)) (ht _ (List.mem_of_getElem? (i := 443) (by decide +kernel))) (by decide) hA
  | 1, _ => al_kof (own := "TableTongue$Strings") (k := 44) (n := 53) (B := al_dfl 2001) (fun w hw => flat_of_before _ hg w (al_slice al_kw1 w hw)) (ht _ (List.mem_of_getElem? (i := 515) (by decide +kernel))) (by decide) hA
  | 2, _ => al_kof (own := "TableTongue$Strings") (k := 46) (n := 89) (B := al_dfl 2002) (fun w hw => flat_of_before _ hg w (al_slice al_kw2 w hw)) (ht _ (List.mem_of_getElem? (i := 516) (by decide +kernel))) (by decide) hA
  | 3, _ => al_kof (own := "TableTongue$Strings") (k := 48) (n := 55) (B := al_dfl 2003) (fun w hw => flat_of_before _ hg w (al_slice al_kw3 w hw)) (ht _ (List.mem_of_getElem? (i := 517) (by decide +kernel))) (by decide) hA
  | 4, _ => al_kof (own := "TableTongue$Parser") (k := 41) (n := 4) (B := al_dfl 2004) (fun w hw => flat_of_before _ hg w (al_slice al_kw4 w hw)) (ht _ (List.mem_of_getElem? (i := 969) (by decide +kernel))) (by decide) hA
  | 5, _ => al_kof (own := "TableTongue$Library") (k := 41) (n := 90) (B := al_dfl 2005) (fun w hw => flat_of_before _ hg w (al_slice al_kw5 w hw)) (ht _ (List.mem_of_getElem? (i := 1084) (by decide +kernel))) (by decide) hA
  | 6, _ => al_kof (own := "TableTongue$Library") (k := 47) (n := 86) (B := al_dfl 2006) (fun w hw => flat_of_before _ hg w (al_slice al_kw6 w hw)) (ht _ (List.mem_of_getElem? (i := 1459) (by decide +kernel))) (by decide) hA
  | 7, _ => al_kof (own := "TableTongue$Library") (k := 49) (n := 88) (B := al_dfl 2007) (fun w hw => flat_of_before _ hg w (al_slice al_kw7 w hw)) (ht _ (List.mem_of_getElem? (i := 1460) (by decide +kernel))) (by decide) hA
  | 8, _ => al_kof (own := "TableTongue$Library") (k := 51) (n := 20) (B := al_dfl 2008) (fun w hw => flat_of_before _ hg w (al_slice al_kw8 w hw)) (ht _ (List.mem_of_getElem? (i := 1461) (by decide +kernel))) (by decide) hA
  | 9, _ => al_kof (own := "TableTongue$Library") (k := 53) (n := 4) (B := al_dfl 2009) (fun w hw => flat_of_before _ hg w (al_slice al_kw9 w hw)) (ht _ (List.mem_of_getElem? (i := 1462) (by decide +kernel))) (by decide) hA
  | 10, _ => al_kof (own := "TableTongue$Library") (k := 59) (n := 4) (B := al_dfl 2010) (fun w hw => flat_of_before _ hg w (al_slice al_kw10 w hw)) (ht _ (List.mem_of_getElem? (i := 1463) (by decide +kernel))) (by decide) hA
  | 11, _ => al_kof (own := "TableTongue$Library") (k := 61) (n := 4) (B := al_dfl 2011) (fun w hw => flat_of_before _ hg w (al_slice al_kw11 w hw)) (ht _ (List.mem_of_getElem? (i := 1464) (by decide +kernel))) (by decide) hA
  | 12, _ => al_kof (own := "TableTongue$Library") (k := 63) (n := 1) (B := al_dfl 2012) (fun w hw => flat_of_before _ hg w (al_slice al_kw12 w hw)) (ht _ (List.mem_of_getElem? (i := 1465) (by decide +kernel))) (by decide) hA
  | 13, _ => al_kof (own := "TableTongue$Tokens") (k := 89) (n := 21) (B := al_dfl 2013) (fun w hw => flat_of_before _ hg w (al_slice al_kw13 w hw)) (ht _ (List.mem_of_getElem? (i := 1735) (by decide +kernel))) (by decide) hA
  | n + 14, h => absurd h (by omega)
set_option maxRecDepth 100000 in
theorem al_CF0 {args : Array Value} {s : State} {A : Nat → Prop} (hg : (Cond.and given_1 narrow_1).before args s = true) (ht : ∀ w ∈ lw_tbl, w.before args s = true) (hA : ∀ a : Nat, a < s.heap.size → ¬ A a) : ∃ ka : ev_KA, ev_CF al_dfl al_tyf ka A s := by
  have h0 : ∀ i : Nat, ∃ q : Nat × Nat, i < 14 → al_kP s A i q := by
    intro i
    by_cases hi : i < 14
    · obtain ⟨q, hq⟩ := al_kall hg ht hA i hi
      exact ⟨q, fun _ => hq⟩
    · exact ⟨(0, 0), fun h => absurd h hi⟩
  obtain ⟨ad, had⟩ := Classical.axiomOfChoice h0
  refine ⟨(List.range 14).map ad, by rw [List.length_map, List.length_range]; rfl, fun i q hq => ?_, ?_, ?_, ?_⟩
  · by_cases hi : i < 14
    · rw [List.getElem?_map, List.getElem?_range hi] at hq
      cases hq
      exact had i hi
    · rw [List.getElem?_map, List.getElem?_eq_none (by rw [List.length_range]; omega)] at hq
      cases hq
  · exact va_Zof (ht _ (List.mem_of_getElem? (i := 457) (by decide +kernel))) (ht _ (List.mem_of_getElem? (i := 396) (by decide +kernel))) (va_eqi (flat_of_before _ hg _ (List.mem_of_getElem? (i := 4) (by decide +kernel)))) hA
  · exact va_Zqof (ht _ (List.mem_of_getElem? (i := 473) (by decide +kernel))) (ht _ (List.mem_of_getElem? (i := 398) (by decide +kernel))) (flat_of_before _ hg _ (List.mem_of_getElem? (i := 5) (by decide +kernel))) hA
  · exact va_AO.of (ht _ (List.mem_of_getElem? (i := 733) (by decide +kernel)))
