section MOJ
variable {h0 : zH} {S : Nat → Int32} {A : Nat → Nat → Int32} {ns n made m : Nat} {den : Nat → zT} {G : Nat → Int32} {ps : Nat → List zT} {V : Nat → zV} {l : List zT}
def sdM (h0 : zH) (ns n made : Nat) (den : Nat → zT) (G : Nat → Int32) (m : Nat) (ps : Nat → List zT) (V : Nat → zV) (i pay : Int32) : zP := fun r h' =>
  (r = some (.int (-1)) ∧ h' = h0 ∧ ∀ s, s < ns → i ≠ nI s) ∨ ∃ s, s < ns ∧ i = nI s ∧ (
    (r = some (.int (-2)) ∧ h' = h0 ∧ ¬ (V s).1 8 = 0)
    ∨ (r = some (.int (-3)) ∧ h' = h0 ∧ (V s).1 8 = 0 ∧ (V s).1 7 < lim (V s).1)
    ∨ (r = some (.int (-4)) ∧ h' = h0 ∧ (V s).1 8 = 0 ∧ ¬ (V s).1 7 < lim (V s).1 ∧ m = 60)
    ∨ (r = some (.int (nI m)) ∧ (V s).1 8 = 0 ∧ ¬ (V s).1 7 < lim (V s).1 ∧ m < 60 ∧ frN h0 h' ∧ ∃ n' den' S' A', exM n den n' den' 5 ∧ MO h' ns n' made den' G (m + 1) (va_up ps m (sndL (V s) pay)) (va_up V s (va_up (V s).1 12 ((V s).1 12 + 1), (V s).2)) S' A'))
theorem sent_sV {s : Nat} {v : zV} (h : sV A s n den v) : sV (va_up A 40 (upd (A 40) s (v.1 12 + 1))) s n den (va_up v.1 12 (v.1 12 + 1), v.2) := by
  have tq : ∀ p, p ≠ 40 → va_up A 40 (upd (A 40) s (v.1 12 + 1)) p = A p := fun p h1 => va_up_lit _ _ _ _ h1
  have ti : ∀ q, q ≠ 12 → va_up v.1 12 (v.1 12 + 1) q = v.1 q := fun q h1 => va_up_lit _ _ _ _ h1
  obtain ⟨⟨e25, e26, e27, e28, e29, e30⟩, ex, ey, ek, ⟨e34, e35, e36, e37, e38, e39, e40, e41⟩, ew, hI, h8⟩ := h
  refine ⟨⟨?_, ?_, ?_, ?_, ?_, ?_⟩, ?_, ?_, ?_, ⟨?_, ?_, ?_, ?_, ?_, ?_, ?_, ?_⟩, ?_, ?_, ?_⟩
  · rw [tq 25 (by decide)]; exact e25.trans (ti 0 (by decide)).symm
  · rw [tq 26 (by decide)]; exact e26.trans (ti 1 (by decide)).symm
  · rw [tq 27 (by decide)]; exact e27.trans (ti 2 (by decide)).symm
  · rw [tq 28 (by decide)]; exact e28.trans (ti 3 (by decide)).symm
  · rw [tq 29 (by decide)]; exact e29.trans (ti 5 (by decide)).symm
  · rw [tq 30 (by decide)]; exact e30.trans (ti 4 (by decide)).symm
  · rw [tq 31 (by decide)]; exact ex
  · rw [tq 32 (by decide)]; exact ey
  · rw [tq 33 (by decide)]; exact ek
  · rw [tq 34 (by decide)]; exact e34.trans (ti 6 (by decide)).symm
  · rw [tq 35 (by decide)]; exact e35.trans (ti 7 (by decide)).symm
  · rw [tq 36 (by decide)]; exact e36.trans (ti 8 (by decide)).symm
  · rw [tq 37 (by decide)]; exact e37.trans (ti 9 (by decide)).symm
  · rw [tq 38 (by decide)]; exact e38.trans (ti 10 (by decide)).symm
  · rw [tq 39 (by decide)]; exact e39.trans (ti 11 (by decide)).symm
  · show va_up A 40 (upd (A 40) s (v.1 12 + 1)) 40 s = va_up v.1 12 (v.1 12 + 1) 12
    rw [va_up_eq, va_up_eq]
    exact upd_s
  · rw [tq 41 (by decide)]; exact e41.trans (ti 13 (by decide)).symm
  · rw [tq 42 (by decide)]
    show wnd _ (va_up v.1 12 (v.1 12 + 1) 13) v.2.2
    rw [ti 13 (by decide)]
    exact ew
  · show iOK (va_up v.1 12 (v.1 12 + 1))
    unfold iOK at hI ⊢
    rw [ti 0 (by decide), ti 1 (by decide), ti 2 (by decide), ti 3 (by decide), ti 4 (by decide), ti 5 (by decide), ti 7 (by decide)]
    exact hI
  · show va_up v.1 12 (v.1 12 + 1) 8 = 0 ∨ va_up v.1 12 (v.1 12 + 1) 8 = 1
    rw [ti 8 (by decide)]
    exact h8
set_option maxHeartbeats 8000000 in
theorem send_core (sc : Nat × (Nat → Int32)) (d : Nat) (hM : MO h0 ns n made den G m ps V S A) (hn : n + 5 ≤ 1200) {s : Nat} (hs : s < ns) (hc : (V s).1 8 = 0) (hd : ¬ (V s).1 7 < lim (V s).1) (hm : m < 60) (pay w : Int32) (hwt : w.toInt = (if (V s).1 1 = 0 then 2 else 1)) {P : zP} (hP : ∀ r h', sdM h0 ns n made den G m ps V (nI s) pay r h' → P r h') (l3 l4 l5 : Option Value) :
    zS (zMt zTab sc (d + 2), (0, 0), sc) k_Mo_send P (62, [some (.ref 15), some (.int (nI s)), some (.int pay), l3, l4, l5], [.int w, .int 7, .ref 15], h0, 0, 0) := by
  have hW := hM.1
  have hn12 := hM.2.2.1.1
  have hv := hM.2.2.2.2.2.1 s hs
  obtain ⟨y, hy, ey, edy⟩ := hv.2.2.1
  have o := hW.o
  have a32 := hW.a 32 0 12 (by decide) (by decide) rfl rfl
  have w3 : vp_in (nI s) 12 := vp_in_nI (by omega) (by decide)
  have w4 : (nI s).toNatClampNeg = s := nI_clamp (by omega)
  (repeat (refine zS_one rfl ?_; simp (disch := (first | decide | assumption | omega)) only [i_push, i_null, i_ild, i_ald, i_ist, i_ast, i_inc, i_bin, i_div, i_un, i_dup, i_pop, i_dup2, i_if, i_icmp, i_nul, i_nnl, i_goto, i_getf, i_putf, i_gets, i_nald, i_nast, i_aald, i_aast, i_alen, i_new, i_newa, i_newq, i_math, i_oini, i_iret, i_zret, i_aret, i_vret, z_fit, List.getElem?_cons_zero, List.getElem?_cons_succ, List.set_cons_zero, List.set_cons_succ, Nat.reduceAdd, Nat.reduceLT, Nat.reduceLeDiff, Nat.reduceEqDiff, Nat.zero_lt_succ, Value.category, true_and, or_true, true_or, and_true, false_implies, true_implies, not_false_eq_true, not_true_eq_false, List.map_cons, List.map_nil, List.sum_cons, List.sum_nil, va_up_eq, bx_uu, va_up_lit, List.length_cons, List.length_nil, List.drop_succ_cons, List.drop_zero, Option.toList_some, Option.toList_none, List.cons_append, List.nil_append, o, a32, w3, w4, ey]))
  (try refine zS_one rfl ?_)
  refine r_callV (c_term sc (d + 1) hW (by omega) (τ := skT (V s).1 (V s).2.1) (Or.inr (Or.inr (Or.inr (Or.inr (Or.inl ⟨rfl, y, hy, rfl, rfl, rfl, by unfold skT; rw [hwt, edy]⟩)))))) rfl rfl rfl rfl hW.f (Nat.le_refl _) (Nat.le_refl _) ?_
  rintro r h1 ⟨t1, n1, den1, S1, A1, rfl, ht1, ed1, hW1, hx1, hS1, hA1, hf1⟩
  have m1 : n1 ≤ n + 1 := hx1.2.1
  (repeat (refine zS_one rfl ?_; simp (disch := (first | decide | assumption | omega)) only [i_push, i_null, i_ild, i_ald, i_ist, i_ast, i_inc, i_bin, i_div, i_un, i_dup, i_pop, i_dup2, i_if, i_icmp, i_nul, i_nnl, i_goto, i_getf, i_putf, i_gets, i_nald, i_nast, i_aald, i_aast, i_alen, i_new, i_newa, i_newq, i_math, i_oini, i_iret, i_zret, i_aret, i_vret, z_fit, List.getElem?_cons_zero, List.getElem?_cons_succ, List.set_cons_zero, List.set_cons_succ, Nat.reduceAdd, Nat.reduceLT, Nat.reduceLeDiff, Nat.reduceEqDiff, Nat.zero_lt_succ, Value.category, true_and, or_true, true_or, and_true, false_implies, true_implies, not_false_eq_true, not_true_eq_false, List.map_cons, List.map_nil, List.sum_cons, List.sum_nil, va_up_eq, bx_uu, va_up_lit, List.length_cons, List.length_nil, List.drop_succ_cons, List.drop_zero, Option.toList_some, Option.toList_none, List.cons_append, List.nil_append]))
  (try refine zS_one rfl ?_)
  refine r_callV (c_Mnum sc d hW1 (by omega) 0) rfl rfl rfl rfl hW1.f (Nat.le_refl _) (Nat.le_refl _) ?_
  rintro r h2 ⟨t2, n2, den2, S2, A2, rfl, ht2, ed2, hW2, hx2, hS2, hA2, hf2⟩
  have m2 : n2 ≤ n1 + 1 := hx2.2.1
  (repeat (refine zS_one rfl ?_; simp (disch := (first | decide | assumption | omega)) only [i_push, i_null, i_ild, i_ald, i_ist, i_ast, i_inc, i_bin, i_div, i_un, i_dup, i_pop, i_dup2, i_if, i_icmp, i_nul, i_nnl, i_goto, i_getf, i_putf, i_gets, i_nald, i_nast, i_aald, i_aast, i_alen, i_new, i_newa, i_newq, i_math, i_oini, i_iret, i_zret, i_aret, i_vret, z_fit, List.getElem?_cons_zero, List.getElem?_cons_succ, List.set_cons_zero, List.set_cons_succ, Nat.reduceAdd, Nat.reduceLT, Nat.reduceLeDiff, Nat.reduceEqDiff, Nat.zero_lt_succ, Value.category, true_and, or_true, true_or, and_true, false_implies, true_implies, not_false_eq_true, not_true_eq_false, List.map_cons, List.map_nil, List.sum_cons, List.sum_nil, va_up_eq, bx_uu, va_up_lit, List.length_cons, List.length_nil, List.drop_succ_cons, List.drop_zero, Option.toList_some, Option.toList_none, List.cons_append, List.nil_append]))
  (try refine zS_one rfl ?_)
  refine r_callV (c_Mnum sc d hW2 (by omega) pay) rfl rfl rfl rfl hW2.f (Nat.le_refl _) (Nat.le_refl _) ?_
  rintro r h3 ⟨t3, n3, den3, S3, A3, rfl, ht3, ed3, hW3, hx3, hS3, hA3, hf3⟩
  have m3 : n3 ≤ n2 + 1 := hx3.2.1
  have o3 := hW3.o
  have a40 := hW3.a 40 0 12 (by decide) (by decide) rfl rfl
  have e40 : A3 40 s = (V s).1 12 := by
    rw [hA3 40 (by decide), hA2 40 (by decide), hA1 40 (by decide)]
    exact hv.2.2.2.2.1.2.2.2.2.2.2.1
  (repeat (refine zS_one rfl ?_; simp (disch := (first | decide | assumption | omega)) only [i_push, i_null, i_ild, i_ald, i_ist, i_ast, i_inc, i_bin, i_div, i_un, i_dup, i_pop, i_dup2, i_if, i_icmp, i_nul, i_nnl, i_goto, i_getf, i_putf, i_gets, i_nald, i_nast, i_aald, i_aast, i_alen, i_new, i_newa, i_newq, i_math, i_oini, i_iret, i_zret, i_aret, i_vret, z_fit, List.getElem?_cons_zero, List.getElem?_cons_succ, List.set_cons_zero, List.set_cons_succ, Nat.reduceAdd, Nat.reduceLT, Nat.reduceLeDiff, Nat.reduceEqDiff, Nat.zero_lt_succ, Value.category, true_and, or_true, true_or, and_true, false_implies, true_implies, not_false_eq_true, not_true_eq_false, List.map_cons, List.map_nil, List.sum_cons, List.sum_nil, va_up_eq, bx_uu, va_up_lit, List.length_cons, List.length_nil, List.drop_succ_cons, List.drop_zero, Option.toList_some, Option.toList_none, List.cons_append, List.nil_append, o3, a40, w3, w4, e40]))
  (try refine zS_one rfl ?_)
  refine r_callV (c_Mnum sc d hW3 (by omega) ((V s).1 12)) rfl rfl rfl rfl hW3.f (Nat.le_refl _) (Nat.le_refl _) ?_
  rintro r h4 ⟨t4, n4, den4, S4, A4, rfl, ht4, ed4, hW4, hx4, hS4, hA4, hf4⟩
  have m4 : n4 ≤ n3 + 1 := hx4.2.1
  have o4 := hW4.o
  have b40 := hW4.a 40 0 12 (by decide) (by decide) rfl rfl
  have b43 := hW4.a 43 0 3 (by decide) (by decide) rfl rfl
  have f40 : A4 40 s = (V s).1 12 := by rw [hA4 40 (by decide)]; exact e40
  have v0 : vp_in (0 : Int32) 3 := vp_in_nI (n := 0) (N := 3) (by decide) (by decide)
  have c0 : (0 : Int32).toNatClampNeg = 0 := by decide
  have v1 : vp_in (1 : Int32) 3 := vp_in_nI (n := 1) (N := 3) (by decide) (by decide)
  have c1 : (1 : Int32).toNatClampNeg = 1 := by decide
  have hW5 := hW4.put 43 (upd (A4 43) 0 (nI t4)) (kd := 0) (ln := 3) (by decide) (by decide) rfl rfl
  have X3 := (hx1.tr hx2).tr hx3
  have k1 : t1 < n4 := by have := hx2.1; have := hx3.1; have := hx4.1; omega
  have k2 : t2 < n4 := by have := hx3.1; have := hx4.1; omega
  have k3 : t3 < n4 := by have := hx4.1; omega
  have d1 : den4 t1 = skT (V s).1 (V s).2.1 := by
    rw [hx4.2.2 t1 (by have := hx2.1; have := hx3.1; omega), hx3.2.2 t1 (by have := hx2.1; omega), hx2.2.2 t1 ht1]
    exact ed1
  have d2 : den4 t2 = tN 0 := by
    rw [hx4.2.2 t2 (by have := hx3.1; omega), hx3.2.2 t2 ht2]
    exact ed2
  have d3 : den4 t3 = tN pay := by
    rw [hx4.2.2 t3 ht3]
    exact ed3
  (repeat (refine zS_one rfl ?_; simp (disch := (first | decide | assumption | omega)) only [i_push, i_null, i_ild, i_ald, i_ist, i_ast, i_inc, i_bin, i_div, i_un, i_dup, i_pop, i_dup2, i_if, i_icmp, i_nul, i_nnl, i_goto, i_getf, i_putf, i_gets, i_nald, i_nast, i_aald, i_aast, i_alen, i_new, i_newa, i_newq, i_math, i_oini, i_iret, i_zret, i_aret, i_vret, z_fit, List.getElem?_cons_zero, List.getElem?_cons_succ, List.set_cons_zero, List.set_cons_succ, Nat.reduceAdd, Nat.reduceLT, Nat.reduceLeDiff, Nat.reduceEqDiff, Nat.zero_lt_succ, Value.category, true_and, or_true, true_or, and_true, false_implies, true_implies, not_false_eq_true, not_true_eq_false, List.map_cons, List.map_nil, List.sum_cons, List.sum_nil, va_up_eq, bx_uu, va_up_lit, List.length_cons, List.length_nil, List.drop_succ_cons, List.drop_zero, Option.toList_some, Option.toList_none, List.cons_append, List.nil_append, o4, b40, b43, v0, c0, w3, w4, f40]))
  (try refine zS_one rfl ?_)
  refine r_callV (c_term sc (d + 1) hW5 (by omega) (τ := nd 8 ((V s).1 12).toInt 0 (skT (V s).1 (V s).2.1) (tN 0) (tN pay)) (Or.inr (Or.inr (Or.inr (Or.inr (Or.inr ⟨rfl, t1, t2, t3, k1, k2, k3, rfl, rfl, rfl, by rw [d1, d2, d3]⟩)))))) rfl rfl rfl rfl hW5.f (Nat.le_refl _) (Nat.le_refl _) ?_
  rintro r h6 ⟨t6, n6, den6, S6, A6, rfl, ht6, ed6, hW6, hx6, hS6, hA6, hf6⟩
  have o6 := hW6.o
  have c40 := hW6.a 40 0 12 (by decide) (by decide) rfl rfl
  have c43 := hW6.a 43 0 3 (by decide) (by decide) rfl rfl
  have hAA : ∀ p, 20 < p → p < 43 → A6 p = A p := fun p z1 z2 => by rw [hA6 p z1, va_up_lit _ _ _ _ (by omega), hA4 p z1, hA3 p z1, hA2 p z1, hA1 p z1]
  have hSS : ∀ q, q ≠ 0 → S6 q = S q := fun q hq => by rw [hS6 q hq, hS4 q hq, hS3 q hq, hS2 q hq, hS1 q hq]
  have g40 : A6 40 s = (V s).1 12 := by rw [hAA 40 (by decide) (by decide)]; exact hv.2.2.2.2.1.2.2.2.2.2.2.1
  have g43 : A6 43 = upd (A4 43) 0 (nI t4) := by rw [hA6 43 (by decide), va_up_eq]
  have hW7 := (hW6.put 43 (upd (A6 43) 1 (nI t6)) (kd := 0) (ln := 3) (by decide) (by decide) rfl rfl).put 40 (upd (A6 40) s ((V s).1 12 + 1)) (kd := 0) (ln := 12) (by decide) (by decide) rfl rfl
  have s1 : S6 1 = nI m := (hSS 1 (by decide)).trans hM.2.1.1
  (repeat (refine zS_one rfl ?_; simp (disch := (first | decide | assumption | omega)) only [i_push, i_null, i_ild, i_ald, i_ist, i_ast, i_inc, i_bin, i_div, i_un, i_dup, i_pop, i_dup2, i_if, i_icmp, i_nul, i_nnl, i_goto, i_getf, i_putf, i_gets, i_nald, i_nast, i_aald, i_aast, i_alen, i_new, i_newa, i_newq, i_math, i_oini, i_iret, i_zret, i_aret, i_vret, z_fit, List.getElem?_cons_zero, List.getElem?_cons_succ, List.set_cons_zero, List.set_cons_succ, Nat.reduceAdd, Nat.reduceLT, Nat.reduceLeDiff, Nat.reduceEqDiff, Nat.zero_lt_succ, Value.category, true_and, or_true, true_or, and_true, false_implies, true_implies, not_false_eq_true, not_true_eq_false, List.map_cons, List.map_nil, List.sum_cons, List.sum_nil, va_up_eq, bx_uu, va_up_lit, List.length_cons, List.length_nil, List.drop_succ_cons, List.drop_zero, Option.toList_some, Option.toList_none, List.cons_append, List.nil_append, o6, c40, c43, v1, c1, w3, w4, g40]))
  (try refine zS_one rfl ?_)
  refine r_callV (c_newMessage sc (d + 1) hW7 hm (len := 2) (by decide) s1) rfl rfl rfl rfl hW7.f (Nat.le_refl _) (Nat.le_refl _) ?_
  rintro r h8 ⟨rfl, hW8, hf8⟩
  (repeat (refine zS_one rfl ?_; simp (disch := (first | decide | assumption | omega)) only [i_push, i_null, i_ild, i_ald, i_ist, i_ast, i_inc, i_bin, i_div, i_un, i_dup, i_pop, i_dup2, i_if, i_icmp, i_nul, i_nnl, i_goto, i_getf, i_putf, i_gets, i_nald, i_nast, i_aald, i_aast, i_alen, i_new, i_newa, i_newq, i_math, i_oini, i_iret, i_zret, i_aret, i_vret, z_fit, List.getElem?_cons_zero, List.getElem?_cons_succ, List.set_cons_zero, List.set_cons_succ, Nat.reduceAdd, Nat.reduceLT, Nat.reduceLeDiff, Nat.reduceEqDiff, Nat.zero_lt_succ, Value.category, true_and, or_true, true_or, and_true, false_implies, true_implies, not_false_eq_true, not_true_eq_false, List.map_cons, List.map_nil, List.sum_cons, List.sum_nil, va_up_eq, bx_uu, va_up_lit, List.length_cons, List.length_nil, List.drop_succ_cons, List.drop_zero, Option.toList_some, Option.toList_none, List.cons_append, List.nil_append]))
  have hxx : exM n den n6 den6 5 := ((X3.tr hx4).tr hx6)
  have hF : frN h0 h8 := ((((((((hf1.tr hf2).tr hf3).tr hf4).tr (frN.put (by decide) (by decide))).tr hf6).tr (frN.put (by decide) (by decide))).tr (frN.put (by decide) (by decide))).tr hf8)
  have hvs : ∀ t, t < ns → sV (va_up (va_up A6 43 (upd (A6 43) 1 (nI t6))) 40 (upd (A6 40) s ((V s).1 12 + 1))) t n6 den6 (va_up V s (va_up (V s).1 12 ((V s).1 12 + 1), (V s).2) t) := by
    intro t ht
    have h6' : sV A6 t n6 den6 (V t) := (hM.2.2.2.2.2.1 t ht).ext hxx (fun p z1 z2 => by rw [hAA p (by omega) (by omega)])
    by_cases z : t = s
    · subst z
      rw [va_up_eq]
      refine (sent_sV h6').ext (c := 0) exM.rf (fun p z1 z2 => ?_)
      by_cases y : p = 40
      · subst y; rw [va_up_eq, va_up_eq]
      · rw [va_up_lit _ _ _ _ y, va_up_lit _ _ _ _ (by omega), va_up_lit _ _ _ _ y]
    · rw [va_up_lit _ _ _ _ z]
      refine h6'.ext (c := 0) exM.rf (fun p z1 z2 => ?_)
      by_cases y : p = 40
      · subst y; rw [va_up_eq, upd_n z]
      · rw [va_up_lit _ _ _ _ y, va_up_lit _ _ _ _ (by omega)]
  have hMO := hM.msg (l := sndL (V s) pay) hm hxx hW8 (show 2 ≤ 3 by decide) (fun j τ hj => by
    rw [va_up_lit _ _ _ _ (by decide), va_up_eq, g43]
    match j, hj with
    | 0, hj =>
      have e : tN ((V s).1 12) = τ := by injection hj
      exact ⟨t4, Nat.lt_of_lt_of_le ht4 hx6.1, by rw [upd_n (by decide)]; exact upd_s, by rw [hx6.2.2 t4 ht4, ed4]; exact e⟩
    | 1, hj =>
      have e : nd 8 ((V s).1 12).toInt 0 (skT (V s).1 (V s).2.1) (tN 0) (tN pay) = τ := by injection hj
      exact ⟨t6, ht6, upd_s, by rw [ed6]; exact e⟩
    | j + 2, hj => cases hj) ((hSS 2 (by decide)).trans hM.2.1.2.1) hM.2.2.1.2.2 (hSS 3 (by decide)) (by rw [va_up_lit _ _ _ _ (by decide), va_up_lit _ _ _ _ (by decide)]; exact hAA 22 (by decide) (by decide)) (by rw [va_up_lit _ _ _ _ (by decide), va_up_lit _ _ _ _ (by decide)]; exact hAA 23 (by decide) (by decide)) (by rw [va_up_lit _ _ _ _ (by decide), va_up_lit _ _ _ _ (by decide)]; exact hAA 24 (by decide) (by decide)) hvs (fun p t z1 z2 z3 z4 => by
    have : A6 p t = 0 := by rw [hAA p (by omega) (by omega)]; exact hM.2.2.2.2.2.2 p t z1 z2 z3 z4
    by_cases y : p = 40
    · subst y; rw [va_up_eq, upd_n (by omega)]; exact this
    · rw [va_up_lit _ _ _ _ y, va_up_lit _ _ _ _ (by omega)]; exact this)
  exact hP _ _ (Or.inr ⟨s, hs, rfl, Or.inr (Or.inr (Or.inr ⟨rfl, hc, hd, hm, hF, n6, den6, _, _, hxx, hMO⟩))⟩)
end MOJ
