section MOG
variable {h0 : zH} {S : Nat → Int32} {A : Nat → Nat → Int32} {ns n made m : Nat} {den : Nat → zT} {G : Nat → Int32} {ps : Nat → List zT} {V : Nat → zV}
set_option maxHeartbeats 8000000 in
theorem write_core (sc : Nat × (Nat → Int32)) (d : Nat) (hM : MO h0 ns n made den G m ps V S A) (hn : n + 15 ≤ 1200) {s : Nat} (hs : s < ns) (hc : (V s).1 8 = 0) (hmy : myT (V s).1) (hm : m < 60) (hmd : rowI (V s).1 ≠ 2 → made < 12) (pay : Int32) {P : zP} (hP : ∀ r h', wrM h0 ns n made den G m ps V (nI s) pay r h' → P r h') (l3 l4 l5 : Option Value) :
    zS (zMt zTab sc (d + 5), (0, 0), sc) k_Mo_write P (53, [some (.ref 15), some (.int (nI s)), some (.int pay), l3, l4, l5], [], h0, 0, 0) := by
  have hW := hM.1
  have hn12 := hM.2.2.1.1
  have hv := hM.2.2.2.2.2.1 s hs
  have hI := hv.2.2.2.2.2.2.1
  obtain ⟨p, st, p0, p7, pr, ps3, hrow⟩ := row_of hI hmy.1
  have e25 : A 25 s = nI p := hv.1.1.trans p0
  have e35 : A 35 s = nI st := hv.2.2.2.2.1.2.1.trans p7
  (repeat (refine zS_one rfl ?_; simp (disch := (first | decide | assumption | omega)) only [i_push, i_null, i_ild, i_ald, i_ist, i_ast, i_inc, i_bin, i_div, i_un, i_dup, i_pop, i_dup2, i_if, i_icmp, i_nul, i_nnl, i_goto, i_getf, i_putf, i_gets, i_nald, i_nast, i_aald, i_aast, i_alen, i_new, i_newa, i_newq, i_math, i_oini, i_iret, i_zret, i_aret, i_vret, z_fit, List.getElem?_cons_zero, List.getElem?_cons_succ, List.set_cons_zero, List.set_cons_succ, Nat.reduceAdd, Nat.reduceLT, Nat.reduceLeDiff, Nat.reduceEqDiff, Nat.zero_lt_succ, Value.category, true_and, or_true, true_or, and_true, false_implies, true_implies, not_false_eq_true, not_true_eq_false, List.map_cons, List.map_nil, List.sum_cons, List.sum_nil, va_up_eq, bx_uu, va_up_lit, List.length_cons, List.length_nil, List.drop_succ_cons, List.drop_zero, Option.toList_some, Option.toList_none, List.cons_append, List.nil_append]))
  (try refine zS_one rfl ?_)
  refine r_callV (c_load sc (d + 4) hW (by omega) hv) rfl rfl rfl rfl hW.f (Nat.le_refl _) (Nat.le_refl _) ?_
  rintro r h1 ⟨rfl, hV1, hf1⟩
  have o1 := hV1.1.o
  have hV2 : ∀ fs, fs = mF (va_up (ldS S A s) 12 0) → MV (va_up h1.1 15 (.inr (6, fs)), h1.2) (va_up (ldS S A s) 12 0) A n den s (V s).1 (V s).2.1 := fun fs hfs => hV1.move (c := 0) (hV1.1.fld hfs (va_up_lit _ _ _ _ (by decide))) exM.rf (fun q z1 z2 => va_up_lit _ _ _ _ (by omega)) (fun _ _ _ => rfl)
  have hB2 : pB (va_up (ldS S A s) 12 0) A n den [] := ⟨va_up_eq _ _ _, by decide, fun j τ hj => by simp at hj⟩
  (iterate 5 (refine zS_one rfl ?_; simp (disch := (first | decide | assumption | omega)) only [i_push, i_null, i_ild, i_ald, i_ist, i_ast, i_inc, i_bin, i_div, i_un, i_dup, i_pop, i_dup2, i_if, i_icmp, i_nul, i_nnl, i_goto, i_getf, i_putf, i_gets, i_nald, i_nast, i_aald, i_aast, i_alen, i_new, i_newa, i_newq, i_math, i_oini, i_iret, i_zret, i_aret, i_vret, z_fit, List.getElem?_cons_zero, List.getElem?_cons_succ, List.set_cons_zero, List.set_cons_succ, Nat.reduceAdd, Nat.reduceLT, Nat.reduceLeDiff, Nat.reduceEqDiff, Nat.zero_lt_succ, Value.category, true_and, or_true, true_or, and_true, false_implies, true_implies, not_false_eq_true, not_true_eq_false, List.map_cons, List.map_nil, List.sum_cons, List.sum_nil, va_up_eq, bx_uu, va_up_lit, List.length_cons, List.length_nil, List.drop_succ_cons, List.drop_zero, Option.toList_some, Option.toList_none, List.cons_append, List.nil_append, o1, nI_1]))
  refine write_loop sc d (hV2 _ (by unfold mF; simp (disch := decide) only [va_up_eq, va_up_lit])) hB2 hM.2.2.1.2.2 ((va_up_lit _ _ _ _ (by decide)).trans hM.2.1.2.1) (by omega) e25 e35 pr ps3 (fun z => hmd (by rw [hrow]; exact z)) _ _ _ (fun h2 l4 l5 hq hlen => ?_)
  rw [← hrow] at hq hlen
  have htl := wrow_tl (rowI (V s).1) ((V s).1, (V s).2.1, [], 8 + made)
  generalize hw : wrow (rowI (V s).1) ((V s).1, (V s).2.1, [], 8 + made) = w at hq hlen htl
  obtain ⟨n2, den2, S2, A2, hV3, hB3, ⟨e, he, hke, hs2⟩, hx2, h132, hA2, hf2⟩ := hq
  have m2 : n2 ≤ n + 12 := hx2.2.1
  have w44 : (4 : Int32) ≤ nI 4 := by decide
  (repeat (refine zS_one rfl ?_; simp (disch := (first | decide | assumption | omega)) only [i_push, i_null, i_ild, i_ald, i_ist, i_ast, i_inc, i_bin, i_div, i_un, i_dup, i_pop, i_dup2, i_if, i_icmp, i_nul, i_nnl, i_goto, i_getf, i_putf, i_gets, i_nald, i_nast, i_aald, i_aast, i_alen, i_new, i_newa, i_newq, i_math, i_oini, i_iret, i_zret, i_aret, i_vret, z_fit, List.getElem?_cons_zero, List.getElem?_cons_succ, List.set_cons_zero, List.set_cons_succ, Nat.reduceAdd, Nat.reduceLT, Nat.reduceLeDiff, Nat.reduceEqDiff, Nat.zero_lt_succ, Value.category, true_and, or_true, true_or, and_true, false_implies, true_implies, not_false_eq_true, not_true_eq_false, List.map_cons, List.map_nil, List.sum_cons, List.sum_nil, va_up_eq, bx_uu, va_up_lit, List.length_cons, List.length_nil, List.drop_succ_cons, List.drop_zero, Option.toList_some, Option.toList_none, List.cons_append, List.nil_append, w44]))
  (try refine zS_one rfl ?_)
  refine r_callV (c_Mnum sc (d + 3) hV3.1 (by omega) pay) rfl rfl rfl rfl hV3.1.f (Nat.le_refl _) (Nat.le_refl _) ?_
  rintro r h3 ⟨u, n3, den3, S3, A3, rfl, hu, ed, hW3, hx3, hS3, hA3, hf3⟩
  have m3 : n3 ≤ n2 + 1 := hx3.2.1
  have hV4 := hV3.grow hW3 hx3 hS3 hA3
  have hB4 : pB S3 A3 n3 den3 w.2.2.1 := hB3.ext hx3 (hS3 12 (by decide)) (hA3 43 (by decide))
  (repeat (refine zS_one rfl ?_; simp (disch := (first | decide | assumption | omega)) only [i_push, i_null, i_ild, i_ald, i_ist, i_ast, i_inc, i_bin, i_div, i_un, i_dup, i_pop, i_dup2, i_if, i_icmp, i_nul, i_nnl, i_goto, i_getf, i_putf, i_gets, i_nald, i_nast, i_aald, i_aast, i_alen, i_new, i_newa, i_newq, i_math, i_oini, i_iret, i_zret, i_aret, i_vret, z_fit, List.getElem?_cons_zero, List.getElem?_cons_succ, List.set_cons_zero, List.set_cons_succ, Nat.reduceAdd, Nat.reduceLT, Nat.reduceLeDiff, Nat.reduceEqDiff, Nat.zero_lt_succ, Value.category, true_and, or_true, true_or, and_true, false_implies, true_implies, not_false_eq_true, not_true_eq_false, List.map_cons, List.map_nil, List.sum_cons, List.sum_nil, va_up_eq, bx_uu, va_up_lit, List.length_cons, List.length_nil, List.drop_succ_cons, List.drop_zero, Option.toList_some, Option.toList_none, List.cons_append, List.nil_append]))
  (try refine zS_one rfl ?_)
  refine r_callV (c_put sc d hV4 hB4 hlen (by omega) hu) rfl rfl rfl rfl hW3.f (Nat.le_refl _) (Nat.le_refl _) ?_
  rintro r h4 ⟨rfl, n4, den4, S4, A4, hV5, hB5, hx4, hS4, hA4, hf4⟩
  rw [ed] at hV5 hB5
  have hAA : ∀ p, 20 < p → p < 43 → A4 p = A p := fun p z1 z2 => (hA4 p z1 z2).trans ((hA3 p z1).trans (hA2 p z1 z2))
  have s1 : S4 1 = nI m := (hS4 1 (by omega)).trans ((hS3 1 (by decide)).trans (h132.1.trans ((va_up_lit _ _ _ _ (by decide)).trans hM.2.1.1)))
  have s2 : S4 2 = nI e := (hS4 2 (by omega)).trans ((hS3 2 (by decide)).trans hs2)
  have s3 : S4 3 = S 3 := (hS4 3 (by omega)).trans ((hS3 3 (by decide)).trans (h132.2.trans (va_up_lit _ _ _ _ (by decide))))
  have e7 : inc w.1 w.2.1 7 = w.1 7 := by
    unfold inc
    split
    · rfl
    · exact va_up_lit _ _ _ _ (by decide)
  have f7 : inc w.1 w.2.1 7 = (V s).1 7 := by
    rw [← hV5.2.2.2.2.2.2.2.1.2.2.2, hAA 35 (by decide) (by decide)]
    exact hv.2.2.2.2.1.2.1
  have f0 : inc w.1 w.2.1 0 = (V s).1 0 := by
    rw [← hV5.2.2.2.2.2.2.2.1.1, hAA 25 (by decide) (by decide)]
    exact hv.1.1
  have h7 : inc w.1 w.2.1 7 < lim (inc w.1 w.2.1) := by
    unfold lim
    rw [f7, f0]
    exact hmy.1
  have hsv := keep_sV hV5 hv hAA (tl_tr htl (inc_tl _ _)) h7
  have hlen4 : (w.2.2.1 ++ [prt w.1 w.2.1 (tN pay)]).length ≤ 3 := hB5.2.1
  (repeat (refine zS_one rfl ?_; simp (disch := (first | decide | assumption | omega)) only [i_push, i_null, i_ild, i_ald, i_ist, i_ast, i_inc, i_bin, i_div, i_un, i_dup, i_pop, i_dup2, i_if, i_icmp, i_nul, i_nnl, i_goto, i_getf, i_putf, i_gets, i_nald, i_nast, i_aald, i_aast, i_alen, i_new, i_newa, i_newq, i_math, i_oini, i_iret, i_zret, i_aret, i_vret, z_fit, List.getElem?_cons_zero, List.getElem?_cons_succ, List.set_cons_zero, List.set_cons_succ, Nat.reduceAdd, Nat.reduceLT, Nat.reduceLeDiff, Nat.reduceEqDiff, Nat.zero_lt_succ, Value.category, true_and, or_true, true_or, and_true, false_implies, true_implies, not_false_eq_true, not_true_eq_false, List.map_cons, List.map_nil, List.sum_cons, List.sum_nil, va_up_eq, bx_uu, va_up_lit, List.length_cons, List.length_nil, List.drop_succ_cons, List.drop_zero, Option.toList_some, Option.toList_none, List.cons_append, List.nil_append]))
  (try refine zS_one rfl ?_)
  refine r_callV (c_keep sc (d + 3) hV5) rfl rfl rfl rfl hV5.1.f (Nat.le_refl _) (Nat.le_refl _) ?_
  rintro r h5 ⟨rfl, hW5, hf5⟩
  have o5 := hW5.o
  rw [hB5.1] at o5
  (repeat (refine zS_one rfl ?_; simp (disch := (first | decide | assumption | omega)) only [i_push, i_null, i_ild, i_ald, i_ist, i_ast, i_inc, i_bin, i_div, i_un, i_dup, i_pop, i_dup2, i_if, i_icmp, i_nul, i_nnl, i_goto, i_getf, i_putf, i_gets, i_nald, i_nast, i_aald, i_aast, i_alen, i_new, i_newa, i_newq, i_math, i_oini, i_iret, i_zret, i_aret, i_vret, z_fit, List.getElem?_cons_zero, List.getElem?_cons_succ, List.set_cons_zero, List.set_cons_succ, Nat.reduceAdd, Nat.reduceLT, Nat.reduceLeDiff, Nat.reduceEqDiff, Nat.zero_lt_succ, Value.category, true_and, or_true, true_or, and_true, false_implies, true_implies, not_false_eq_true, not_true_eq_false, List.map_cons, List.map_nil, List.sum_cons, List.sum_nil, va_up_eq, bx_uu, va_up_lit, List.length_cons, List.length_nil, List.drop_succ_cons, List.drop_zero, Option.toList_some, Option.toList_none, List.cons_append, List.nil_append, o5]))
  (try refine zS_one rfl ?_)
  refine r_callV (c_newMessage sc (d + 4) hW5 hm hlen4 s1) rfl rfl rfl rfl hW5.f (Nat.le_refl _) (Nat.le_refl _) ?_
  rintro r h6 ⟨rfl, hW6, hf6⟩
  (repeat (refine zS_one rfl ?_; simp (disch := (first | decide | assumption | omega)) only [i_push, i_null, i_ild, i_ald, i_ist, i_ast, i_inc, i_bin, i_div, i_un, i_dup, i_pop, i_dup2, i_if, i_icmp, i_nul, i_nnl, i_goto, i_getf, i_putf, i_gets, i_nald, i_nast, i_aald, i_aast, i_alen, i_new, i_newa, i_newq, i_math, i_oini, i_iret, i_zret, i_aret, i_vret, z_fit, List.getElem?_cons_zero, List.getElem?_cons_succ, List.set_cons_zero, List.set_cons_succ, Nat.reduceAdd, Nat.reduceLT, Nat.reduceLeDiff, Nat.reduceEqDiff, Nat.zero_lt_succ, Value.category, true_and, or_true, true_or, and_true, false_implies, true_implies, not_false_eq_true, not_true_eq_false, List.map_cons, List.map_nil, List.sum_cons, List.sum_nil, va_up_eq, bx_uu, va_up_lit, List.length_cons, List.length_nil, List.drop_succ_cons, List.drop_zero, Option.toList_some, Option.toList_none, List.cons_append, List.nil_append]))
  have hxx : exM n den n4 den4 15 := (hx2.tr hx3).tr hx4
  have hF : frN h0 h6 := ((((((hf1.tr (frN.put (by decide) (by decide))).tr hf2).tr hf3).tr hf4).tr hf5).tr hf6)
  have hvs : ∀ t, t < ns → sV (kpA S4 A4 s (inc w.1 w.2.1 7 + 1) (if inc w.1 w.2.1 7 + 1 = lim (inc w.1 w.2.1) then 0 else A4 37 s)) t n4 den4 (va_up V s (endI (wpay pay w).1, (wpay pay w).2.1, (V s).2.2) t) := by
    intro t ht
    by_cases z : t = s
    · subst z
      rw [va_up_eq]
      have : (wpay pay w).1 = va_up (inc w.1 w.2.1) 7 (inc w.1 w.2.1 7 + 1) := by rw [e7]; rfl
      rw [this]
      exact hsv
    · rw [va_up_lit _ _ _ _ z]
      refine (hM.2.2.2.2.2.1 t ht).ext hxx (fun p z1 z2 => ?_)
      rw [kp_ne z, hAA p (by omega) (by omega)]
  have hMO := hM.msg hm hxx hW6 hlen4 (fun j τ hj => by
    obtain ⟨t, ht, e1, e2⟩ := hB5.2.2 j τ hj
    refine ⟨t, ht, ?_, e2⟩
    rw [kp_out (by omega)]
    exact e1) s2 he s3 (by rw [kp_out (by omega)]; exact hAA 22 (by decide) (by decide)) (by rw [kp_out (by omega)]; exact hAA 23 (by decide) (by decide)) (by rw [kp_out (by omega)]; exact hAA 24 (by decide) (by decide)) hvs (fun p t z1 z2 z3 z4 => by
    rw [kp_ne (by omega), hAA p (by omega) (by omega)]
    exact hM.2.2.2.2.2.2 p t z1 z2 z3 z4)
  obtain ⟨S', hMO⟩ := Exists.intro (p := fun S' => MO h6 ns n4 e den4 G (m + 1) (va_up ps m (w.2.2.1 ++ [prt w.1 w.2.1 (tN pay)])) (va_up V s (endI (wpay pay w).1, (wpay pay w).2.1, (V s).2.2)) S' _) _ hMO
  obtain ⟨A', hMO⟩ := Exists.intro (p := fun A' => MO h6 ns n4 e den4 G (m + 1) (va_up ps m (w.2.2.1 ++ [prt w.1 w.2.1 (tN pay)])) (va_up V s (endI (wpay pay w).1, (wpay pay w).2.1, (V s).2.2)) S' A') _ hMO
  refine hP _ _ (Or.inr ⟨s, hs, rfl, Or.inr (Or.inr (Or.inr ⟨rfl, hc, hmy, hm, hF, n4, den4, e, S', A', hxx, ?_, ?_⟩))⟩)
  · rw [hw]
    exact hke
  · rw [hw]
    exact hMO
set_option maxHeartbeats 8000000 in
theorem c_Mwrite (sc : Nat × (Nat → Int32)) (d : Nat) (hM : MO h0 ns n made den G m ps V S A) (hn : n + 15 ≤ 1200) (hst : ∀ s, s < ns → ¬ lim (V s).1 < (V s).1 7) (i pay : Int32) (hmd : ∀ s, s < ns → i = nI s → rowI (V s).1 ≠ 2 → myT (V s).1 → made < 12) : zMt zTab sc (d + 6) 101 [.ref 15, .int i, .int pay] h0 0 0 (wrM h0 ns n made den G m ps V i pay) := by
  have hW := hM.1
  have hn12 := hM.2.2.1.1
  have hm60 := hM.2.2.1.2.1
  have o := hW.o
  rw [hM.2.1.1] at o
  have a36 := hW.a 36 1 12 (by decide) (by decide) rfl rfl
  have q10 : ¬ (1 : Int32) = 0 := by decide
  refine zM_gen fun P hP => ?_
  refine zM_start (r := r_Mo_write) (cd := k_Mo_write) (L0 := [some (.ref 15), some (.int i), some (.int pay), none, none, none]) rfl rfl rfl rfl rfl ?_
  (repeat (refine zS_one rfl ?_; simp (disch := (first | decide | assumption | omega)) only [i_push, i_null, i_ild, i_ald, i_ist, i_ast, i_inc, i_bin, i_div, i_un, i_dup, i_pop, i_dup2, i_if, i_icmp, i_nul, i_nnl, i_goto, i_getf, i_putf, i_gets, i_nald, i_nast, i_aald, i_aast, i_alen, i_new, i_newa, i_newq, i_math, i_oini, i_iret, i_zret, i_aret, i_vret, z_fit, List.getElem?_cons_zero, List.getElem?_cons_succ, List.set_cons_zero, List.set_cons_succ, Nat.reduceAdd, Nat.reduceLT, Nat.reduceLeDiff, Nat.reduceEqDiff, Nat.zero_lt_succ, Value.category, true_and, or_true, true_or, and_true, false_implies, true_implies, not_false_eq_true, not_true_eq_false, List.map_cons, List.map_nil, List.sum_cons, List.sum_nil, va_up_eq, bx_uu, va_up_lit, List.length_cons, List.length_nil, List.drop_succ_cons, List.drop_zero, Option.toList_some, Option.toList_none, List.cons_append, List.nil_append]))
  (try refine zS_one rfl ?_)
  refine r_callV (c_isSession sc (d + 3) hM i) rfl rfl rfl rfl hW.f (Nat.le_refl _) (Nat.le_refl _) ?_
  rintro r h' ⟨rfl, ⟨rfl, s, hs, rfl⟩ | ⟨rfl, hno⟩⟩
  rotate_left
  · (repeat (refine zS_one rfl ?_; simp (disch := (first | decide | assumption | omega)) only [i_push, i_null, i_ild, i_ald, i_ist, i_ast, i_inc, i_bin, i_div, i_un, i_dup, i_pop, i_dup2, i_if, i_icmp, i_nul, i_nnl, i_goto, i_getf, i_putf, i_gets, i_nald, i_nast, i_aald, i_aast, i_alen, i_new, i_newa, i_newq, i_math, i_oini, i_iret, i_zret, i_aret, i_vret, z_fit, List.getElem?_cons_zero, List.getElem?_cons_succ, List.set_cons_zero, List.set_cons_succ, Nat.reduceAdd, Nat.reduceLT, Nat.reduceLeDiff, Nat.reduceEqDiff, Nat.zero_lt_succ, Value.category, true_and, or_true, true_or, and_true, false_implies, true_implies, not_false_eq_true, not_true_eq_false, List.map_cons, List.map_nil, List.sum_cons, List.sum_nil, va_up_eq, bx_uu, va_up_lit, List.length_cons, List.length_nil, List.drop_succ_cons, List.drop_zero, Option.toList_some, Option.toList_none, List.cons_append, List.nil_append]))
    exact hP _ _ (Or.inl ⟨rfl, rfl, hno⟩)
  have w3 : vp_in (nI s) 12 := vp_in_nI (by omega) (by decide)
  have w4 : (nI s).toNatClampNeg = s := nI_clamp (by omega)
  have hv := hM.2.2.2.2.2.1 s hs
  have e36 := hv.2.2.2.2.1.2.2.1
  by_cases hc : (V s).1 8 = 0
  rotate_left
  · (repeat (refine zS_one rfl ?_; simp (disch := (first | decide | assumption | omega)) only [i_push, i_null, i_ild, i_ald, i_ist, i_ast, i_inc, i_bin, i_div, i_un, i_dup, i_pop, i_dup2, i_if, i_icmp, i_nul, i_nnl, i_goto, i_getf, i_putf, i_gets, i_nald, i_nast, i_aald, i_aast, i_alen, i_new, i_newa, i_newq, i_math, i_oini, i_iret, i_zret, i_aret, i_vret, z_fit, List.getElem?_cons_zero, List.getElem?_cons_succ, List.set_cons_zero, List.set_cons_succ, Nat.reduceAdd, Nat.reduceLT, Nat.reduceLeDiff, Nat.reduceEqDiff, Nat.zero_lt_succ, Value.category, true_and, or_true, true_or, and_true, false_implies, true_implies, not_false_eq_true, not_true_eq_false, List.map_cons, List.map_nil, List.sum_cons, List.sum_nil, va_up_eq, bx_uu, va_up_lit, List.length_cons, List.length_nil, List.drop_succ_cons, List.drop_zero, Option.toList_some, Option.toList_none, List.cons_append, List.nil_append, o, a36, w3, w4, e36, q10, hc]))
    exact hP _ _ (Or.inr ⟨s, hs, rfl, Or.inl ⟨rfl, rfl, hc⟩⟩)
  (repeat (refine zS_one rfl ?_; simp (disch := (first | decide | assumption | omega)) only [i_push, i_null, i_ild, i_ald, i_ist, i_ast, i_inc, i_bin, i_div, i_un, i_dup, i_pop, i_dup2, i_if, i_icmp, i_nul, i_nnl, i_goto, i_getf, i_putf, i_gets, i_nald, i_nast, i_aald, i_aast, i_alen, i_new, i_newa, i_newq, i_math, i_oini, i_iret, i_zret, i_aret, i_vret, z_fit, List.getElem?_cons_zero, List.getElem?_cons_succ, List.set_cons_zero, List.set_cons_succ, Nat.reduceAdd, Nat.reduceLT, Nat.reduceLeDiff, Nat.reduceEqDiff, Nat.zero_lt_succ, Value.category, true_and, or_true, true_or, and_true, false_implies, true_implies, not_false_eq_true, not_true_eq_false, List.map_cons, List.map_nil, List.sum_cons, List.sum_nil, va_up_eq, bx_uu, va_up_lit, List.length_cons, List.length_nil, List.drop_succ_cons, List.drop_zero, Option.toList_some, Option.toList_none, List.cons_append, List.nil_append, o, a36, w3, w4, e36, q10, hc]))
  (try refine zS_one rfl ?_)
  refine r_callV (c_MisDone sc (d + 3) hM hs (hst s hs)) rfl rfl rfl rfl hW.f (Nat.le_refl _) (Nat.le_refl _) ?_
  rintro r h' ⟨rfl, ⟨rfl, hd⟩ | ⟨rfl, hd⟩⟩
  · (repeat (refine zS_one rfl ?_; simp (disch := (first | decide | assumption | omega)) only [i_push, i_null, i_ild, i_ald, i_ist, i_ast, i_inc, i_bin, i_div, i_un, i_dup, i_pop, i_dup2, i_if, i_icmp, i_nul, i_nnl, i_goto, i_getf, i_putf, i_gets, i_nald, i_nast, i_aald, i_aast, i_alen, i_new, i_newa, i_newq, i_math, i_oini, i_iret, i_zret, i_aret, i_vret, z_fit, List.getElem?_cons_zero, List.getElem?_cons_succ, List.set_cons_zero, List.set_cons_succ, Nat.reduceAdd, Nat.reduceLT, Nat.reduceLeDiff, Nat.reduceEqDiff, Nat.zero_lt_succ, Value.category, true_and, or_true, true_or, and_true, false_implies, true_implies, not_false_eq_true, not_true_eq_false, List.map_cons, List.map_nil, List.sum_cons, List.sum_nil, va_up_eq, bx_uu, va_up_lit, List.length_cons, List.length_nil, List.drop_succ_cons, List.drop_zero, Option.toList_some, Option.toList_none, List.cons_append, List.nil_append, q10]))
    exact hP _ _ (Or.inr ⟨s, hs, rfl, Or.inr (Or.inl ⟨rfl, rfl, hc, fun z => hd z.1⟩)⟩)
  have e26 := hv.1.2.1
  have e35 := hv.2.2.2.2.1.2.1
  (repeat (refine zS_one rfl ?_; simp (disch := (first | decide | assumption | omega)) only [i_push, i_null, i_ild, i_ald, i_ist, i_ast, i_inc, i_bin, i_div, i_un, i_dup, i_pop, i_dup2, i_if, i_icmp, i_nul, i_nnl, i_goto, i_getf, i_putf, i_gets, i_nald, i_nast, i_aald, i_aast, i_alen, i_new, i_newa, i_newq, i_math, i_oini, i_iret, i_zret, i_aret, i_vret, z_fit, List.getElem?_cons_zero, List.getElem?_cons_succ, List.set_cons_zero, List.set_cons_succ, Nat.reduceAdd, Nat.reduceLT, Nat.reduceLeDiff, Nat.reduceEqDiff, Nat.zero_lt_succ, Value.category, true_and, or_true, true_or, and_true, false_implies, true_implies, not_false_eq_true, not_true_eq_false, List.map_cons, List.map_nil, List.sum_cons, List.sum_nil, va_up_eq, bx_uu, va_up_lit, List.length_cons, List.length_nil, List.drop_succ_cons, List.drop_zero, Option.toList_some, Option.toList_none, List.cons_append, List.nil_append]))
  (try refine zS_one rfl ?_)
  refine r_callV (c_writes sc (d + 4) hW (s := s) (by omega) (by rw [e26]; exact hv.2.2.2.2.2.2.1.2.1)) rfl rfl rfl rfl hW.f (Nat.le_refl _) (Nat.le_refl _) ?_
  rw [e26, e35]
  rintro r h' ⟨rfl, ⟨rfl, hw⟩ | ⟨rfl, hw⟩⟩
  rotate_left
  · (repeat (refine zS_one rfl ?_; simp (disch := (first | decide | assumption | omega)) only [i_push, i_null, i_ild, i_ald, i_ist, i_ast, i_inc, i_bin, i_div, i_un, i_dup, i_pop, i_dup2, i_if, i_icmp, i_nul, i_nnl, i_goto, i_getf, i_putf, i_gets, i_nald, i_nast, i_aald, i_aast, i_alen, i_new, i_newa, i_newq, i_math, i_oini, i_iret, i_zret, i_aret, i_vret, z_fit, List.getElem?_cons_zero, List.getElem?_cons_succ, List.set_cons_zero, List.set_cons_succ, Nat.reduceAdd, Nat.reduceLT, Nat.reduceLeDiff, Nat.reduceEqDiff, Nat.zero_lt_succ, Value.category, true_and, or_true, true_or, and_true, false_implies, true_implies, not_false_eq_true, not_true_eq_false, List.map_cons, List.map_nil, List.sum_cons, List.sum_nil, va_up_eq, bx_uu, va_up_lit, List.length_cons, List.length_nil, List.drop_succ_cons, List.drop_zero, Option.toList_some, Option.toList_none, List.cons_append, List.nil_append]))
    exact hP _ _ (Or.inr ⟨s, hs, rfl, Or.inr (Or.inl ⟨rfl, rfl, hc, fun z => hw z.2⟩)⟩)
  by_cases hm : m = 60
  · have c60' : nI m = 60 := by rw [hm]; decide
    (repeat (refine zS_one rfl ?_; simp (disch := (first | decide | assumption | omega)) only [i_push, i_null, i_ild, i_ald, i_ist, i_ast, i_inc, i_bin, i_div, i_un, i_dup, i_pop, i_dup2, i_if, i_icmp, i_nul, i_nnl, i_goto, i_getf, i_putf, i_gets, i_nald, i_nast, i_aald, i_aast, i_alen, i_new, i_newa, i_newq, i_math, i_oini, i_iret, i_zret, i_aret, i_vret, z_fit, List.getElem?_cons_zero, List.getElem?_cons_succ, List.set_cons_zero, List.set_cons_succ, Nat.reduceAdd, Nat.reduceLT, Nat.reduceLeDiff, Nat.reduceEqDiff, Nat.zero_lt_succ, Value.category, true_and, or_true, true_or, and_true, false_implies, true_implies, not_false_eq_true, not_true_eq_false, List.map_cons, List.map_nil, List.sum_cons, List.sum_nil, va_up_eq, bx_uu, va_up_lit, List.length_cons, List.length_nil, List.drop_succ_cons, List.drop_zero, Option.toList_some, Option.toList_none, List.cons_append, List.nil_append, o, q10, c60']))
    exact hP _ _ (Or.inr ⟨s, hs, rfl, Or.inr (Or.inr (Or.inl ⟨rfl, rfl, hc, ⟨hd, hw⟩, hm⟩))⟩)
  · have c60' : ¬ nI m = 60 := fun z => hm (nI_inj (a := m) (b := 60) (by omega) (by decide) (z.trans c60))
    have := write_core sc d hM hn hs hc ⟨hd, hw⟩ (by omega) (fun z => hmd s hs rfl z ⟨hd, hw⟩) pay hP none none none
    (iterate 5 (refine zS_one rfl ?_; simp (disch := (first | decide | assumption | omega)) only [i_push, i_null, i_ild, i_ald, i_ist, i_ast, i_inc, i_bin, i_div, i_un, i_dup, i_pop, i_dup2, i_if, i_icmp, i_nul, i_nnl, i_goto, i_getf, i_putf, i_gets, i_nald, i_nast, i_aald, i_aast, i_alen, i_new, i_newa, i_newq, i_math, i_oini, i_iret, i_zret, i_aret, i_vret, z_fit, List.getElem?_cons_zero, List.getElem?_cons_succ, List.set_cons_zero, List.set_cons_succ, Nat.reduceAdd, Nat.reduceLT, Nat.reduceLeDiff, Nat.reduceEqDiff, Nat.zero_lt_succ, Value.category, true_and, or_true, true_or, and_true, false_implies, true_implies, not_false_eq_true, not_true_eq_false, List.map_cons, List.map_nil, List.sum_cons, List.sum_nil, va_up_eq, bx_uu, va_up_lit, List.length_cons, List.length_nil, List.drop_succ_cons, List.drop_zero, Option.toList_some, Option.toList_none, List.cons_append, List.nil_append, o, q10, c60']))
    exact this
end MOG
