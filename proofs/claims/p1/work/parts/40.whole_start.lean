/-! ===== 40: the law from its entry; the claim (by wip/p1/law4.py; the text behind whole_start is the kit's skeleton's) ===== -/
set_option maxHeartbeats 4000000 in
set_option maxRecDepth 100000 in
/-- from the entry, for every script of at most 4 ints, the law comes to its end with true ('hflags': the launch's flags, for a law that throws: no stack traces) -/
theorem whole_start {p : Program} {e : Env} {s : State} {m : MethodId} {below : List Frame} {meth : Method} {c : Code} (l : Launch) (hflags : l.flags = flags0) {b L : Nat} {xs : Nat → Int32} (hL : L ≤ 4) (C0 : lw_At p s m meth c b L xs) : W p l e room_1 s m #[Value.ref b] below meth c s.heap [] 0 0 (lw_Z below #[Value.ref b] s) (entryFrame m ([Value.ref b] : List Value).toArray 8) := by
  have C9 := C0
  obtain ⟨hx, hb, hr, hml, hown, hts, hX, hbl, hlocks, hgv⟩ := C0
  have hst : l.stackTraces = false := by
    unfold Launch.stackTraces
    rw [hflags]
    decide +kernel
  have hA0 : ∀ a : Nat, a < s.heap.size → ¬ (fun q : Nat => s.heap.size ≤ q) a := fun a h => Nat.not_le.mpr h
  obtain ⟨D, hK0⟩ := lw_K0 hts
  obtain ⟨ka, hCF⟩ := al_CF0 (A := fun q : Nat => s.heap.size ≤ q) hgv hts hA0
  have hE := lw_E0 (A := fun q : Nat => s.heap.size ≤ q) hts hgv hA0
  have hS0 : va_S (fun q : Nat => s.heap.size ≤ q) s.heap s.heap [] := va_S.rf
  have hl := lv_entry ([.ref b]) (n := 8) (Nat.le_of_ble_eq_true rfl)
  rw [lg_entry_eq]
  generalize (lg_sl ([.ref b]) ++ List.replicate (8 - (lg_sl ([.ref b])).length) Slot.unset).toArray = ls at hl ⊢
  have hl : lv_has ls 8 [(0, .ref b)] := hl
  refine lw_mk (own := "TableTongueLaw") (C := "TableTongue") (T := al_TX11) (N := 12) (ci := 3) (idx := 8) (ic := 53) (mid := 47) (d := 20) (nL := 8) (y := al_yX11_init) (bytes := prog_1_method_1_code) (maxL := 1) (wf := []) hx hb hml hl.1 hown hts hCF (fun _ h => h) rfl (by decide) (by decide +kernel) hK0 (fun k q h => (by cases h)) ⟨fun i j x y h => (by cases h), fun k q h => (by cases h)⟩ hS0 (List.mem_of_getElem? (i := 428) (by decide +kernel)) (List.mem_of_getElem? (i := 429) (by decide +kernel)) (List.mem_of_getElem? (i := 394) (by decide +kernel)) (List.mem_of_getElem? (i := 432) rfl) (by decide +kernel) (List.mem_of_getElem? (i := 394) (by decide +kernel)) (List.mem_of_getElem? (i := 430) (by decide +kernel)) (List.mem_of_getElem? (i := 431) (by decide +kernel)) rfl ⟨by decide, by decide, by decide +kernel⟩ rfl al_ctor (Nat.le_of_ble_eq_true rfl) (Nat.le_of_ble_eq_true rfl) (Nat.le_of_ble_eq_true rfl) (Nat.le_of_ble_eq_true rfl) lwd_0 lwd_3 lwd_4 (fun x0 lx tx wx H1 locs1 hMx hKx hP1 hD1 hS1 => ?_)
  rw [List.append_nil] at hP1 hD1
  refine lv_astore_n (lv' := [(1, .ref x0), (0, .ref b)]) hx hb lwd_7 rfl hl (by decide) rfl (fun ls hl => ?_)
  refine lw_mk (own := "TableTongueLaw") (C := "TableTongueModel") (T := al_TX12) (N := 160) (ci := 0) (idx := 54) (ic := 56) (mid := 16) (d := 30) (nL := 8) (y := al_yX12_init) (bytes := prog_14_method_1_code) (maxL := 2) (wf := wx) hx hb hml hl.1 hown hts hCF (fun _ h => h) rfl (by decide) (by decide +kernel) hK0 hP1 hD1 hS1 (List.mem_of_getElem? (i := 2957) (by decide +kernel)) (List.mem_of_getElem? (i := 2958) (by decide +kernel)) (List.mem_of_getElem? (i := 423) (by decide +kernel)) (List.mem_of_getElem? (i := 2961) rfl) (by decide +kernel) (List.mem_of_getElem? (i := 423) (by decide +kernel)) (List.mem_of_getElem? (i := 2959) (by decide +kernel)) (List.mem_of_getElem? (i := 2960) (by decide +kernel)) rfl ⟨by decide, by decide, by decide +kernel⟩ rfl al_mctor (Nat.le_of_ble_eq_true rfl) (Nat.le_of_ble_eq_true rfl) (Nat.le_of_ble_eq_true rfl) (Nat.le_of_ble_eq_true rfl) lwd_8 lwd_11 lwd_12 (fun m0 lm tm wm H2 locs2 hMm hKm hP2 hD2 hS2 => ?_)
  refine lv_astore_n (lv' := [(2, .ref m0), (1, .ref x0), (0, .ref b)]) hx hb lwd_15 rfl hl (by decide) rfl (fun ls hl => ?_)
  refine lv_iconst (v := 1) hx hb lwd_16 (by decide) ?_
  refine va_newa (atype := .long) (ty := .long) (N' := 1) (a0 := (1, .inr (.inl (fun _ => 0)))) hx hb (hts _ (List.mem_of_getElem? (i := 645) (by decide +kernel))) rfl hK0 hP2 hD2 hS2 (fun _ h => h) (fun cA => rfl) (by decide) (by decide) (by decide) (Nat.le_of_ble_eq_true rfl) (Nat.le_of_ble_eq_true rfl) lwd_17 (fun o cO H3 hK3 hP3 hD3 hS3 => ?_)
  refine lv_astore_n (lv' := [(3, .ref o), (2, .ref m0), (1, .ref x0), (0, .ref b)]) hx hb lwd_19 rfl hl (by decide) rfl (fun ls hl => ?_)
  refine lv_iconst (v := 0) hx hb lwd_20 (by decide) ?_
  refine lv_istore (lv' := [(4, .int 0), (3, .ref o), (2, .ref m0), (1, .ref x0), (0, .ref b)]) hx hb lwd_21 hl (by decide) rfl (fun ls hl => ?_)
  have hbA : ¬ (fun q : Nat => s.heap.size ≤ q) b := Nat.not_le.mpr hbl
  refine lv_iload hx hb lwd_23 (lv_at hl 0 rfl) ?_
  refine lv_aload_n hx hb lwd_25 rfl (lv_at hl 4 rfl) ?_
  refine va_slen hx hb hX hbl hbA hS3 lwd_26 ?_
  refine lv_iconst (v := 4) hx hb lwd_27 (by decide) ?_
  refine lv_isub hx hb lwd_28 ?_
  refine lv_icmp_gt (tgt := 886) hx hb lwd_29 (by decide) (fun c_1 => ?_) (fun c_1 => ?_)
  · refine lv_iconst (v := 1) hx hb lwd_886 (by decide) ?_
    refine va_forget (fun q hq => hS3.2.2 q hq) ?_
    refine W.widen (k := 600002) (n := 7302232) (Nat.le_of_ble_eq_true rfl) (Nat.le_of_ble_eq_true rfl) ?_
    exact lw_ret hx hb hr hlocks lwd_887
  · obtain rfl : L = 4 := by
      have h5 : L = 0 ∨ L = 1 ∨ L = 2 ∨ L = 3 ∨ L = 4 := by omega
      rcases h5 with rfl | rfl | rfl | rfl | rfl
      · exact absurd (by decide) c_1
      · exact absurd (by decide) c_1
      · exact absurd (by decide) c_1
      · exact absurd (by decide) c_1
      · rfl
    refine lv_aload_n hx hb lwd_32 rfl (lv_at hl 4 rfl) ?_
    refine lv_iload hx hb lwd_33 (lv_at hl 0 rfl) ?_
    refine va_sld hx hb hX hbl hbA hS3 (i := 0) (by unfold vp_in; decide) lwd_35 ?_
    refine lv_bipush (v := 15) hx hb lwd_36 (by decide) ?_
    refine lv_iand hx hb lwd_38 ?_
    obtain ⟨k, hk, ek⟩ := lw_and15 (xs (0 : Int32).toNatClampNeg)
    refine lv_topi (fun z ez => ?_)
    obtain rfl : z = nI k := ez.trans ek
    obtain ⟨fx, x1, cX, f, t0, hx0, hx1, htx, lfx, qx0, qx8, qx9, qx10, qx11⟩ := lw_x hMx
    obtain ⟨fm, m1, cM, g, t1, hm0, hm1, htm, lfm, qm1, qm0, qm2, qm3, qm4⟩ := lw_m hMm
    have hPw := hP3.ef_l
    have hDw := hD3.ev_l
    have C : lw_C5 D s H3 locs2 x0 x1 m0 m1 o cX cM cO f g (fun _ => 0) fx fm := by
      refine ⟨fun k q hk => ?_, hD3.by (fun k => match k with
        | 0 => wm.length + 0
        | 1 => wm.length + 1
        | 2 => 0
        | 3 => 1
        | _ => (wm ++ wx).length) (fun k q hk => ?_) (fun i j hi hj hij => ?_), ?_, hS3, hE, lfx, qx0, qx8, qx9, qx10, qx11, lfm, qm1, qm0, qm2, qm3, qm4⟩
      · match k, hk with
        | 0, hk => cases hk; exact hPw.ev_r 0 _ hx0
        | 1, hk => cases hk; exact hPw.ev_r 1 _ hx1
        | 2, hk => cases hk; exact hPw.ef_l 0 _ hm0
        | 3, hk => cases hk; exact hPw.ef_l 1 _ hm1
        | 4, hk => cases hk; exact hP3.ev_r 0 _ rfl
        | k + 5, hk => cases hk
      · have hl0 := (List.getElem?_eq_some_iff.mp hx0).1
        have hl1 := (List.getElem?_eq_some_iff.mp hx1).1
        have hl2 := (List.getElem?_eq_some_iff.mp hm0).1
        have hl3 := (List.getElem?_eq_some_iff.mp hm1).1
        match k, hk with
        | 0, hk => cases hk; show ((wm ++ wx) ++ _)[wm.length + 0]? = _; rw [List.getElem?_append_left (by rw [List.length_append]; omega), List.getElem?_append_right (by omega), Nat.add_sub_cancel_left]; exact hx0
        | 1, hk => cases hk; show ((wm ++ wx) ++ _)[wm.length + 1]? = _; rw [List.getElem?_append_left (by rw [List.length_append]; omega), List.getElem?_append_right (by omega), Nat.add_sub_cancel_left]; exact hx1
        | 2, hk => cases hk; show ((wm ++ wx) ++ _)[0]? = _; rw [List.getElem?_append_left (by rw [List.length_append]; omega), List.getElem?_append_left hl2]; exact hm0
        | 3, hk => cases hk; show ((wm ++ wx) ++ _)[1]? = _; rw [List.getElem?_append_left (by rw [List.length_append]; omega), List.getElem?_append_left hl3]; exact hm1
        | 4, hk => cases hk; show ((wm ++ wx) ++ _)[(wm ++ wx).length]? = _; rw [List.getElem?_append_right (Nat.le_refl _), Nat.sub_self]; rfl
        | k + 5, hk => cases hk
      · have hl1 := (List.getElem?_eq_some_iff.mp hx1).1
        have hl3 := (List.getElem?_eq_some_iff.mp hm1).1
        have hla : (wm ++ wx).length = wm.length + wx.length := List.length_append
        have hi : i < 5 := hi
        have hj : j < 5 := hj
        have ei : i = 0 ∨ i = 1 ∨ i = 2 ∨ i = 3 ∨ i = 4 := by omega
        have ej : j = 0 ∨ j = 1 ∨ j = 2 ∨ j = 3 ∨ j = 4 := by omega
        rcases ei with rfl | rfl | rfl | rfl | rfl <;> rcases ej with rfl | rfl | rfl | rfl | rfl
        · rfl
        · exact absurd (show wm.length + 0 = wm.length + 1 from hij) (by omega)
        · exact absurd (show wm.length + 0 = 0 from hij) (by omega)
        · exact absurd (show wm.length + 0 = 1 from hij) (by omega)
        · exact absurd (show wm.length + 0 = (wm ++ wx).length from hij) (by omega)
        · exact absurd (show wm.length + 1 = wm.length + 0 from hij) (by omega)
        · rfl
        · exact absurd (show wm.length + 1 = 0 from hij) (by omega)
        · exact absurd (show wm.length + 1 = 1 from hij) (by omega)
        · exact absurd (show wm.length + 1 = (wm ++ wx).length from hij) (by omega)
        · exact absurd (show 0 = wm.length + 0 from hij) (by omega)
        · exact absurd (show 0 = wm.length + 1 from hij) (by omega)
        · rfl
        · exact absurd (show 0 = 1 from hij) (by omega)
        · exact absurd (show 0 = (wm ++ wx).length from hij) (by omega)
        · exact absurd (show 1 = wm.length + 0 from hij) (by omega)
        · exact absurd (show 1 = wm.length + 1 from hij) (by omega)
        · exact absurd (show 1 = 0 from hij) (by omega)
        · rfl
        · exact absurd (show 1 = (wm ++ wx).length from hij) (by omega)
        · exact absurd (show (wm ++ wx).length = wm.length + 0 from hij) (by omega)
        · exact absurd (show (wm ++ wx).length = wm.length + 1 from hij) (by omega)
        · exact absurd (show (wm ++ wx).length = 0 from hij) (by omega)
        · exact absurd (show (wm ++ wx).length = 1 from hij) (by omega)
        · rfl
      · exact ((hKx.sub (tys' := [(cX, .byte)]) [t0] (by simp [htx])).app (hKm.sub (tys' := [(cM, .int)]) [t1] (by simp [htm]))).app hK3
    have hc : 0 + 1 + 172 + 1 + 100 + 1 ≤ 1000 := (Nat.le_of_ble_eq_true rfl)
    have hs : 0 + 12 + 175024 + 160 + 1297774 + 1 ≤ 2000000 := (Nat.le_of_ble_eq_true rfl)
    have e16 : k = 0 ∨ k = 1 ∨ k = 2 ∨ k = 3 ∨ k = 4 ∨ k = 5 ∨ k = 6 ∨ k = 7 ∨ k = 8 ∨ k = 9 ∨ k = 10 ∨ k = 11 ∨ k = 12 ∨ k = 13 ∨ k = 14 ∨ k = 15 := by omega
    have hP2 : va_P D al_cl (wx ++ wm) H3 := hPw.comm
    have hD2 : va_D (fun q : Nat => s.heap.size ≤ q) (wx ++ wm) := hDw.comm
    clear ek ez hk
    generalize hy1 : xs (0 + 1 : Int32).toNatClampNeg = y1
    rcases e16 with rfl | rfl | rfl | rfl | rfl | rfl | rfl | rfl | rfl | rfl | rfl | rfl | rfl | rfl | rfl | rfl
    · refine lv_tableIn hx hb (off := 77) (tgt := 116) lwd_39 (by decide) (by decide) (by decide) (by decide) ?_
      by_cases hbad : y1 < 1 ∨ 8 < y1
      · exact lw_c0b hst C9 C hc hs hl y1 hy1 hbad
      · obtain ⟨N, hN8, hN⟩ := nI_of2 (x := y1) (M := 8) (n := 8) (by decide) (fun h => hbad (Or.inl (Int32.lt_trans h (by decide)))) (Int32.not_lt.mp (fun h => hbad (Or.inr h)))
        have hN1 : 1 ≤ N := by
          rcases Nat.eq_zero_or_pos N with h | h
          · subst h
            exact absurd (Or.inl (by rw [hN]; decide)) hbad
          · exact h
        exact lw_c0a hst C9 C hc hs hl N hN1 hN8 (hy1.trans hN)
    · refine lv_tableIn hx hb (off := 177) (tgt := 216) lwd_39 (by decide) (by decide) (by decide) (by decide) ?_
      exact lw_c1 hst C9 C hc hs hl
    · refine lv_tableIn hx hb (off := 190) (tgt := 229) lwd_39 (by decide) (by decide) (by decide) (by decide) ?_
      exact lw_c2 C9 hCF hMx hMm hKx hKm hP2 hD2 hS3 hc hs hl
    · refine lv_tableIn hx hb (off := 203) (tgt := 242) lwd_39 (by decide) (by decide) (by decide) (by decide) ?_
      by_cases hok : y1 = 0 ∨ y1 = 1
      · exact lw_c3a hst C9 C hc hs hl y1 hy1 hok
      · refine lw_c3b hst C9 C hc hs hl y1 hy1 ?_ (fun h => hok (Or.inl h)) (fun h => hok (Or.inr h))
        by_cases h0 : y1 < 0
        · exact Or.inl h0
        · refine Or.inr (fun h1 => hok ?_)
          obtain ⟨N, hN1, hN⟩ := nI_of2 (x := y1) (M := 1) (n := 1) (by decide) h0 h1
          have h2 : N = 0 ∨ N = 1 := by omega
          rcases h2 with rfl | rfl
          · exact Or.inl (hN.trans (by decide))
          · exact Or.inr (hN.trans (by decide))
    · refine lv_tableIn hx hb (off := 259) (tgt := 298) lwd_39 (by decide) (by decide) (by decide) (by decide) ?_
      exact lw_c4 hst C9 C hc hs hl
    · refine lv_tableIn hx hb (off := 327) (tgt := 366) lwd_39 (by decide) (by decide) (by decide) (by decide) ?_
      exact lw_c5 hst C9 C hc hs hl
    · refine lv_tableIn hx hb (off := 351) (tgt := 390) lwd_39 (by decide) (by decide) (by decide) (by decide) ?_
      exact lw_c6 hst C9 C hc hs hl
    · refine lv_tableIn hx hb (off := 407) (tgt := 446) lwd_39 (by decide) (by decide) (by decide) (by decide) ?_
      exact lw_c7 hst C9 C hc hs hl
    · refine lv_tableIn hx hb (off := 421) (tgt := 460) lwd_39 (by decide) (by decide) (by decide) (by decide) ?_
      exact lw_c8 hst C9 C hc hs hl
    · refine lv_tableIn hx hb (off := 434) (tgt := 473) lwd_39 (by decide) (by decide) (by decide) (by decide) ?_
      exact lw_c9 hst C9 C hc hs hl
    · refine lv_tableIn hx hb (off := 501) (tgt := 540) lwd_39 (by decide) (by decide) (by decide) (by decide) ?_
      exact lw_c10 hst C9 C hc hs hl
    · refine lv_tableIn hx hb (off := 569) (tgt := 608) lwd_39 (by decide) (by decide) (by decide) (by decide) ?_
      exact lw_c11 hst C9 C hc hs hl
    · refine lv_tableIn hx hb (off := 582) (tgt := 621) lwd_39 (by decide) (by decide) (by decide) (by decide) ?_
      exact lw_c12 hst C9 C hc hs hl
    · refine lv_tableIn hx hb (off := 638) (tgt := 677) lwd_39 (by decide) (by decide) (by decide) (by decide) ?_
      by_cases hbad : y1 < 0 ∨ ¬ y1 ≤ 5
      · exact lw_c13b hst C9 C hc hs hl y1 hy1 hbad
      · exact lw_c13a hst C9 C hc hs hl y1 hy1 (fun h => hbad (Or.inl h)) (Classical.byContradiction fun h => hbad (Or.inr h))
    · refine lv_tableIn hx hb (off := 694) (tgt := 733) lwd_39 (by decide) (by decide) (by decide) (by decide) ?_
      exact lw_c14 hst C9 C hc hs hl
    · refine lv_tableIn hx hb (off := 762) (tgt := 801) lwd_39 (by decide) (by decide) (by decide) (by decide) ?_
      exact lw_c15 hst C9 C hc hs hl
set_option maxHeartbeats 4000000 in
theorem lw_walk (l : Launch) (hflags : l.flags = flags0) (b : Addr) (xs : List Int32) : MetFree l x (headSpec (Jvm.Cond.code x code maxLocals ret :: tables_1) room_1) (lw_P b xs) (fun _ _ _ _ _ => True) lw_Q := by
  refine MetFree.of_bodyS (code := code) (maxLocals := maxLocals) (ret := ret) (by decide) ?_ ?_
  · intro args s m h hn
    obtain ⟨meth, c, h1, h2, h3, h4, h5, h6, -, -⟩ := Cond.code_spec hn (atoms_spec (ws := Jvm.Cond.code x code maxLocals ret :: tables_1) h _ List.mem_cons_self)
    exact ⟨meth, c, h1, h2, h3, h4, h5, h6⟩
  · intro p e s m args below meth c s₁ B hml0 hP _
    obtain ⟨rfl, hx, hbd, hgv⟩ := hP
    obtain ⟨scr, harrAt, hlist, hof, hsmall⟩ := hx
    obtain ⟨hcb, hkn, -, -⟩ := State.arrayAt?_spec harrAt
    have hown : s.vm.findClass R_law = some m.cls := findClass_of_methodNamed B.named
    have hts0 : ∀ c ∈ (Jvm.Cond.code x code maxLocals ret :: tables_1), c.before #[Value.ref b] s = true := atoms_spec (ws := Jvm.Cond.code x code maxLocals ret :: tables_1) B.pre
    have hts : ∀ w ∈ lw_tbl, w.before #[Value.ref b] s = true := k2_hts_sels lw_privs (fun w hw => hts0 w (List.mem_cons_of_mem _ hw)) lw_privs_ok
    have hml : c.maxLocals = 8 := B.maxLocals_eq (hts0 _ List.mem_cons_self)
    have X₀ : Stand p l e room_1 s m #[Value.ref b] below meth c s₁ [] 0 0 := Stand.of_body B
    have hh0 : s₁.heap = s.heap := by rw [B.state]; rfl
    have hsz : scr.slots.size = xs.length := by rw [← Array.length_toList, hlist, List.length_map]
    have hval : ∀ j : Nat, j < xs.length → scr.slots[j]? = some (.int (xs.getD j 0)) := fun j hj => by
      rw [← Array.getElem?_toList, hlist]
      simp [hj]
    have hbl : b < s.heap.size := (Array.getElem?_eq_some_iff.mp hcb).1
    have hX : va_X b xs.length (fun j => xs.getD j 0) s s.heap := ⟨scr, hcb, hof, hkn, hsz, hval⟩
    have K : W p l e room_1 s m #[Value.ref b] below meth c s₁.heap [] 0 0 (lw_Z below #[Value.ref b] s) (entryFrame m ([Value.ref b] : List Value).toArray 8) := by
      rw [hh0]
      exact whole_start l hflags hbd ⟨B.exec, B.bytes, B.returns, hml, hown, hts, hX, hbl, B.notSynchronized, hgv⟩
    obtain ⟨t, a1, o, b1, b2, b3⟩ := K s₁ rfl X₀
    exact ⟨t, o, a1, b1, b2, b3⟩
theorem lw_pre_spec {args : Array Value} {s : State} (h : (Jvm.Cond.and given_1 narrow_1).before args s = true) (hr : rest_1_c.before args s = true) : ∃ (b : Addr) (xs : List Int32), lw_P b xs args s := by
  have hs := flat_of_before _ h
  have hq := flat_of_before _ hr
  have hc : (Cond.count 1).before args s = true := hs _ (by decide +kernel)
  have harr : (Cond.arrayOf (.arg 0) .int).before args s = true := hs _ (by decide +kernel)
  have hle : (Cond.le (.length (.arg 0)) (.int 4)).before args s = true := hs _ (by decide +kernel)
  have hlen : (Cond.isInt (.length (.arg 0))).before args s = true := hq _ (by decide +kernel)
  have hall : (Cond.all (.arg 0) (.isInt (.elem (.arg 0) (.index 0)))).before args s = true := hq _ (by decide +kernel)
  obtain ⟨b, xs, hb, hx⟩ := State.ints_of_pre rfl harr hlen hall
  have hsm : xs.length < 2 ^ 31 := hx.choose_spec.2.2.2
  have hev : (Term.length (.arg 0)).eval args s none [] s = some (.int xs.length.toInt32) := hx.length_eval hb
  have hv := Cond.le_ints hev (show (Term.int 4).eval args s none [] s = some (.int 4) from rfl)
  have hd : xs.length.toInt32 ≤ 4 := by
    simpa [Cond.before, Cond.holds, hv] using hle
  have hN : xs.length ≤ 4 := (Int32.ofNat_le_ofNat hsm (by decide)).mp (show Int32.ofNat xs.length ≤ Int32.ofNat 4 from hd)
  exact ⟨b, xs, Cond.one_arg hc (show args[0]? = some (.ref b) from hb), hx, hN, h⟩
theorem lw_comes (l : Launch) (hflags : l.flags = flags0) : Comes l x (Jvm.Cond.code x code maxLocals ret :: tables_1) room_1 (fun tb e args s => Calls_1 tb e args s ∧ rest_1 tb e args s ∧ Pre_1 tb e args s)
    (fun _ _ args s o t => lw_Q args s o t) := by
  intro p e ha hc hk s m args below hf hfit hheap happ hpre
  obtain ⟨b, xs, hP⟩ := lw_pre_spec hpre.2.2 hpre.2.1
  obtain ⟨k, o, h1, h2, h3, hQ⟩ := lw_walk l hflags b xs p e ha hc hk s m args below hf ((Spec.applies_iff_loose hf).mp happ).1 hP trivial
  exact ⟨k, o, h1, h2, h3, hQ⟩
theorem lw_frame {s t : State} {o : Outcome} {args : Array Value} (h : Framed s o t [] 600002 7302232) :
    Framed s o t (fieldLocs frame_1_writes args s ++ arrayLocs frame_1_arrays args s ++ staticLocs frame_1_statics s) 600002 7302232 := h
theorem lw_limb (L : Cond) (hL : ∀ (args : Array Value) (s t : State), L.after args s (.returned (some (.int 1))) t = true) :
    ArmFor flags0 classFile x code maxLocals ret World_1 tables_1 room_1 Calls_1 rest_1 Pre_1
      (fun tb e a s o t => postC L tb e a s o t ∧ Framed s o t (fieldLocs frame_1_writes a s ++ arrayLocs frame_1_arrays a s ++ staticLocs frame_1_statics s) 600002 7302232) := by
  intro l hflags _ _ p e ha hc hk s m args below hf hfit hheap happ hpre
  obtain ⟨k, o, h1, h2, h3, rfl, hF⟩ := lw_comes l hflags p e ha hc hk s m args below hf hfit hheap happ hpre
  exact ⟨k, _, h1, h2, h3, hL args s _, lw_frame hF⟩
theorem i_vc : Claimed_1_1 ∧ Claimed_1_2 := ⟨lw_limb limb_1_1 (fun args s t => by simp [limb_1_1, Cond.after, Cond.holds, Cond.value]), lw_limb limb_1_2 (fun args s t => Cond.after_iff.mpr (by
  first | (rw [show limb_1_2 = Cond.eq .result (.int 1) from rfl, Cond.eq_ints (x := 1) (y := 1) rfl rfl]; simp; done) | (simp [limb_1_2, Cond.value, Term.eval]; done)))⟩
