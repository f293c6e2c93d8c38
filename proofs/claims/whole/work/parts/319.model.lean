section MOI
variable {h0 : zH} {S : Nat → Int32} {A : Nat → Nat → Int32} {ns n made m : Nat} {den : Nat → zT} {G : Nat → Int32} {ps : Nat → List zT} {V : Nat → zV} {l : List zT}
set_option maxHeartbeats 8000000 in
theorem c_reads (sc : Nat × (Nat → Int32)) (d : Nat) (hM : MO h0 ns n made den G m ps V S A) (hB : pB S A n den l) (hn : n + 13 ≤ 1200) {s : Nat} (hs : s < ns) (h7 : (V s).1 7 < lim (V s).1) : zMt zTab sc (d + 6) 105 [.ref 15, .int (nI s)] h0 0 0 (fun r h' => frN h0 h' ∧ (
    (∃ I' Θ' Z n' den' S' A', ¬ myT (V s).1 ∧ rfin (rowI (V s).1) l (V s).1 (V s).2.1 = some (I', Θ', Z) ∧ tkd Z = 1 ∧ r = some (.int 1) ∧ exM n den n' den' 13 ∧ MO h' ns n' made den' G m ps (va_up V s (noteI (endI I') (tv Z), Θ', (V s).2.2)) S' A')
    ∨ (r = some (.int 0) ∧ (myT (V s).1 ∨ rfin (rowI (V s).1) l (V s).1 (V s).2.1 = none) ∧ ∃ S' A', MO h' ns n made den G m ps V S' A'))) := by
  have hW := hM.1
  have hn12 := hM.2.2.1.1
  have hv := hM.2.2.2.2.2.1 s hs
  have hI := hv.2.2.2.2.2.2.1
  obtain ⟨p, st, p0, p7, pr, ps3, hrow⟩ := row_of hI h7
  have o := hW.o
  rw [hW.2.1] at o
  have n1 : ¬ (0 : Int32) ≤ -1 := by decide
  have q10 : ¬ (1 : Int32) = 0 := by decide
  refine zM_gen fun P hP => ?_
  refine zM_start (r := r_Mo_reads) (cd := k_Mo_reads) (L0 := [some (.ref 15), some (.int (nI s)), none, none]) rfl rfl rfl rfl rfl ?_
  (repeat (refine zS_one rfl ?_; simp (disch := (first | decide | assumption | omega)) only [i_push, i_null, i_ild, i_ald, i_ist, i_ast, i_inc, i_bin, i_div, i_un, i_dup, i_pop, i_dup2, i_if, i_icmp, i_nul, i_nnl, i_goto, i_getf, i_putf, i_gets, i_nald, i_nast, i_aald, i_aast, i_alen, i_new, i_newa, i_newq, i_math, i_oini, i_iret, i_zret, i_aret, i_vret, z_fit, List.getElem?_cons_zero, List.getElem?_cons_succ, List.set_cons_zero, List.set_cons_succ, Nat.reduceAdd, Nat.reduceLT, Nat.reduceLeDiff, Nat.reduceEqDiff, Nat.zero_lt_succ, Value.category, true_and, or_true, true_or, and_true, false_implies, true_implies, not_false_eq_true, not_true_eq_false, List.map_cons, List.map_nil, List.sum_cons, List.sum_nil, va_up_eq, bx_uu, va_up_lit, List.length_cons, List.length_nil, List.drop_succ_cons, List.drop_zero, Option.toList_some, Option.toList_none, List.cons_append, List.nil_append, o]))
  (try refine zS_one rfl ?_)
  refine r_callV (c_load sc (d + 4) hW (by omega) hv) rfl rfl rfl rfl hW.f (Nat.le_refl _) (Nat.le_refl _) ?_
  rintro r h1 ⟨rfl, hV1, hf1⟩
  have hW1 := hV1.1
  have o1 := hW1.o
  have e26 := hv.1.2.1
  have e35 := hv.2.2.2.2.1.2.1
  (repeat (refine zS_one rfl ?_; simp (disch := (first | decide | assumption | omega)) only [i_push, i_null, i_ild, i_ald, i_ist, i_ast, i_inc, i_bin, i_div, i_un, i_dup, i_pop, i_dup2, i_if, i_icmp, i_nul, i_nnl, i_goto, i_getf, i_putf, i_gets, i_nald, i_nast, i_aald, i_aast, i_alen, i_new, i_newa, i_newq, i_math, i_oini, i_iret, i_zret, i_aret, i_vret, z_fit, List.getElem?_cons_zero, List.getElem?_cons_succ, List.set_cons_zero, List.set_cons_succ, Nat.reduceAdd, Nat.reduceLT, Nat.reduceLeDiff, Nat.reduceEqDiff, Nat.zero_lt_succ, Value.category, true_and, or_true, true_or, and_true, false_implies, true_implies, not_false_eq_true, not_true_eq_false, List.map_cons, List.map_nil, List.sum_cons, List.sum_nil, va_up_eq, bx_uu, va_up_lit, List.length_cons, List.length_nil, List.drop_succ_cons, List.drop_zero, Option.toList_some, Option.toList_none, List.cons_append, List.nil_append]))
  (try refine zS_one rfl ?_)
  refine r_callV (c_writes sc (d + 4) hW1 (s := s) (by omega) (by rw [e26]; exact hI.2.1)) rfl rfl rfl rfl hW1.f (Nat.le_refl _) (Nat.le_refl _) ?_
  rw [e26, e35]
  rintro r h' ⟨rfl, ⟨rfl, hw⟩ | ⟨rfl, hw⟩⟩
  · (repeat (refine zS_one rfl ?_; simp (disch := (first | decide | assumption | omega)) only [i_push, i_null, i_ild, i_ald, i_ist, i_ast, i_inc, i_bin, i_div, i_un, i_dup, i_pop, i_dup2, i_if, i_icmp, i_nul, i_nnl, i_goto, i_getf, i_putf, i_gets, i_nald, i_nast, i_aald, i_aast, i_alen, i_new, i_newa, i_newq, i_math, i_oini, i_iret, i_zret, i_aret, i_vret, z_fit, List.getElem?_cons_zero, List.getElem?_cons_succ, List.set_cons_zero, List.set_cons_succ, Nat.reduceAdd, Nat.reduceLT, Nat.reduceLeDiff, Nat.reduceEqDiff, Nat.zero_lt_succ, Value.category, true_and, or_true, true_or, and_true, false_implies, true_implies, not_false_eq_true, not_true_eq_false, List.map_cons, List.map_nil, List.sum_cons, List.sum_nil, va_up_eq, bx_uu, va_up_lit, List.length_cons, List.length_nil, List.drop_succ_cons, List.drop_zero, Option.toList_some, Option.toList_none, List.cons_append, List.nil_append, o1, q10, n1]))
    have hMO : ∀ fs, fs = mF (va_up (ldS S A s) 0 (nI n)) → MO (va_up h'.1 15 (.inr (6, fs)), h'.2) ns n made den G m ps V (va_up (ldS S A s) 0 (nI n)) A := fun fs hfs => hM.mv (c := 0) (hW1.fld hfs ((va_up_eq _ _ _).trans hW1.2.1.symm)) exM.rf ⟨rfl, rfl, rfl⟩ (fun _ _ _ => rfl)
    refine hP _ _ ⟨hf1.tr (frN.put (by decide) (by decide)), Or.inr ⟨rfl, Or.inl ⟨h7, hw⟩, _, _, hMO _ ?_⟩⟩
    unfold mF; simp (disch := decide) only [va_up_eq, va_up_lit]
  have hR : RD h' (ldS S A s) A n den s l 0 (V s).1 (V s).2.1 := ⟨hV1, hB.ext (c := 0) exM.rf rfl rfl, rfl, rfl⟩
  (repeat (refine zS_one rfl ?_; simp (disch := (first | decide | assumption | omega)) only [i_push, i_null, i_ild, i_ald, i_ist, i_ast, i_inc, i_bin, i_div, i_un, i_dup, i_pop, i_dup2, i_if, i_icmp, i_nul, i_nnl, i_goto, i_getf, i_putf, i_gets, i_nald, i_nast, i_aald, i_aast, i_alen, i_new, i_newa, i_newq, i_math, i_oini, i_iret, i_zret, i_aret, i_vret, z_fit, List.getElem?_cons_zero, List.getElem?_cons_succ, List.set_cons_zero, List.set_cons_succ, Nat.reduceAdd, Nat.reduceLT, Nat.reduceLeDiff, Nat.reduceEqDiff, Nat.zero_lt_succ, Value.category, true_and, or_true, true_or, and_true, false_implies, true_implies, not_false_eq_true, not_true_eq_false, List.map_cons, List.map_nil, List.sum_cons, List.sum_nil, va_up_eq, bx_uu, va_up_lit, List.length_cons, List.length_nil, List.drop_succ_cons, List.drop_zero, Option.toList_some, Option.toList_none, List.cons_append, List.nil_append]))
  (try refine zS_one rfl ?_)
  refine r_callV (c_run sc d hR hn p0 p7 pr ps3) rfl rfl rfl rfl hW1.f (Nat.le_refl _) (Nat.le_refl _) ?_
  rw [← hrow]
  rintro r h2 (⟨u, Z, I', Θ', n2, den2, S2, A2, rfl, hu, hZ, hkd, hrf, hV2, hx, hS, hA, hf⟩ | ⟨rfl, hrf, n2, den2, S2, A2, hW2, hx, hS, hA, hf⟩)
  · have h12 := hV2.1.2.2.1
    have w0 : (0 : Int32) ≤ nI u := nI_pos' (by omega)
    have hAA : ∀ p, 20 < p → p < 43 → A2 p = A p := fun p z1 z2 => hA p z1
    have ht : tl8 (V s).1 I' := fun q hq => by
      have := rfin_tl hrf q hq
      rw [va_up_lit _ _ _ _ (by omega)] at this
      exact this
    have f7 : I' 7 = (V s).1 7 := by
      rw [← hV2.2.2.2.2.2.2.2.1.2.2.2, hA 35 (by decide)]
      exact e35
    have f0 : I' 0 = (V s).1 0 := by
      rw [← hV2.2.2.2.2.2.2.2.1.1, hA 25 (by decide)]
      exact hv.1.1
    have h7' : I' 7 < lim I' := by
      unfold lim
      rw [f7, f0]
      exact h7
    have hsv := keep_sV hV2 hv hAA ht h7'
    (repeat (refine zS_one rfl ?_; simp (disch := (first | decide | assumption | omega)) only [i_push, i_null, i_ild, i_ald, i_ist, i_ast, i_inc, i_bin, i_div, i_un, i_dup, i_pop, i_dup2, i_if, i_icmp, i_nul, i_nnl, i_goto, i_getf, i_putf, i_gets, i_nald, i_nast, i_aald, i_aast, i_alen, i_new, i_newa, i_newq, i_math, i_oini, i_iret, i_zret, i_aret, i_vret, z_fit, List.getElem?_cons_zero, List.getElem?_cons_succ, List.set_cons_zero, List.set_cons_succ, Nat.reduceAdd, Nat.reduceLT, Nat.reduceLeDiff, Nat.reduceEqDiff, Nat.zero_lt_succ, Value.category, true_and, or_true, true_or, and_true, false_implies, true_implies, not_false_eq_true, not_true_eq_false, List.map_cons, List.map_nil, List.sum_cons, List.sum_nil, va_up_eq, bx_uu, va_up_lit, List.length_cons, List.length_nil, List.drop_succ_cons, List.drop_zero, Option.toList_some, Option.toList_none, List.cons_append, List.nil_append, w0]))
    (try refine zS_one rfl ?_)
    refine r_callV (c_keep sc (d + 3) hV2) rfl rfl rfl rfl hV2.1.f (Nat.le_refl _) (Nat.le_refl _) ?_
    rintro r h3 ⟨rfl, hW3, hf3⟩
    have o3 := hW3.o
    have a17 := hW3.a 17 0 1200 (by decide) (by decide) rfl rfl
    have t3 : vp_in (nI u) 1200 := vp_in_nI (by omega) (by decide)
    have t4 : (nI u).toNatClampNeg = u := nI_clamp (by omega)
    have v1 : kpA S2 A2 s (I' 7 + 1) (if I' 7 + 1 = lim I' then 0 else A2 37 s) 17 u = tv Z := by
      rw [kp_out (by omega), ← hZ]
      exact hV2.1.2.2.vl hu (Or.inl (by rw [hZ]; exact hkd))
    (repeat (refine zS_one rfl ?_; simp (disch := (first | decide | assumption | omega)) only [i_push, i_null, i_ild, i_ald, i_ist, i_ast, i_inc, i_bin, i_div, i_un, i_dup, i_pop, i_dup2, i_if, i_icmp, i_nul, i_nnl, i_goto, i_getf, i_putf, i_gets, i_nald, i_nast, i_aald, i_aast, i_alen, i_new, i_newa, i_newq, i_math, i_oini, i_iret, i_zret, i_aret, i_vret, z_fit, List.getElem?_cons_zero, List.getElem?_cons_succ, List.set_cons_zero, List.set_cons_succ, Nat.reduceAdd, Nat.reduceLT, Nat.reduceLeDiff, Nat.reduceEqDiff, Nat.zero_lt_succ, Value.category, true_and, or_true, true_or, and_true, false_implies, true_implies, not_false_eq_true, not_true_eq_false, List.map_cons, List.map_nil, List.sum_cons, List.sum_nil, va_up_eq, bx_uu, va_up_lit, List.length_cons, List.length_nil, List.drop_succ_cons, List.drop_zero, Option.toList_some, Option.toList_none, List.cons_append, List.nil_append, o3, a17, t3, t4, v1]))
    (try refine zS_one rfl ?_)
    refine r_callV (c_took sc (d + 4) hW3 (s := s) (by omega) (tv Z)) rfl rfl rfl rfl hW3.f (Nat.le_refl _) (Nat.le_refl _) ?_
    rintro r h4 ⟨rfl, hW4, hf4⟩
    (repeat (refine zS_one rfl ?_; simp (disch := (first | decide | assumption | omega)) only [i_push, i_null, i_ild, i_ald, i_ist, i_ast, i_inc, i_bin, i_div, i_un, i_dup, i_pop, i_dup2, i_if, i_icmp, i_nul, i_nnl, i_goto, i_getf, i_putf, i_gets, i_nald, i_nast, i_aald, i_aast, i_alen, i_new, i_newa, i_newq, i_math, i_oini, i_iret, i_zret, i_aret, i_vret, z_fit, List.getElem?_cons_zero, List.getElem?_cons_succ, List.set_cons_zero, List.set_cons_succ, Nat.reduceAdd, Nat.reduceLT, Nat.reduceLeDiff, Nat.reduceEqDiff, Nat.zero_lt_succ, Value.category, true_and, or_true, true_or, and_true, false_implies, true_implies, not_false_eq_true, not_true_eq_false, List.map_cons, List.map_nil, List.sum_cons, List.sum_nil, va_up_eq, bx_uu, va_up_lit, List.length_cons, List.length_nil, List.drop_succ_cons, List.drop_zero, Option.toList_some, Option.toList_none, List.cons_append, List.nil_append]))
    have hMO : MO h4 ns n2 made den2 G m ps (va_up V s (noteI (endI (va_up I' 7 (I' 7 + 1))) (tv Z), Θ', (V s).2.2)) S2 (tkA (kpA S2 A2 s (I' 7 + 1) (if I' 7 + 1 = lim I' then 0 else A2 37 s)) s (tv Z)) := by
      have tq : ∀ p t, t ≠ s → tkA (kpA S2 A2 s (I' 7 + 1) (if I' 7 + 1 = lim I' then 0 else A2 37 s)) s (tv Z) p t = A2 p t := by
        intro p t hts
        unfold tkA va_up
        split
        · rename_i z; subst z; rw [upd_n hts, kp_ne hts]
        · split
          · rename_i z; subst z; rw [upd_n hts, kp_ne hts]
          · exact kp_ne hts
      have to : ∀ p, p < 28 → tkA (kpA S2 A2 s (I' 7 + 1) (if I' 7 + 1 = lim I' then 0 else A2 37 s)) s (tv Z) p = A2 p := by
        intro p hp
        unfold tkA
        rw [va_up_lit _ _ _ _ (by omega), va_up_lit _ _ _ _ (by omega), kp_out (by omega)]
      obtain ⟨-, ⟨s1, s2, s3⟩, hb, hg, hr, hvv, hz⟩ := hM
      refine ⟨hW4, ⟨(hS 1 (by omega)).trans s1, (hS 2 (by omega)).trans s2, (hS 3 (by omega)).trans s3⟩, hb, fun j hj => ?_, fun i hi => ?_, fun t ht' => ?_, fun p t z1 z2 z3 z4 => ?_⟩
      · rw [to 24 (by decide), hA 24 (by decide)]; exact hg j hj
      · obtain ⟨r1, r2, r3⟩ := hr i hi
        refine ⟨by rw [to 22 (by decide), hA 22 (by decide)]; exact r1, r2, fun j τ hj => ?_⟩
        obtain ⟨t, ht', e, ed⟩ := r3 j τ hj
        exact ⟨t, Nat.lt_of_lt_of_le ht' hx.1, by rw [to 23 (by decide), hA 23 (by decide)]; exact e, (hx.2.2 t ht').trans ed⟩
      · by_cases z : t = s
        · subst z
          rw [va_up_eq]
          exact took_sV hsv
        · rw [va_up_lit _ _ _ _ z]
          refine (hvv t ht').ext hx (fun p z1 z2 => ?_)
          rw [tq p t z, hA p (by omega)]
      · rw [tq p t (by omega), hA p (by omega)]
        exact hz p t z1 z2 z3 z4
    exact hP _ _ ⟨((hf1.tr hf).tr hf3).tr hf4, Or.inl ⟨_, Θ', Z, n2, den2, S2, _, fun z => hw z.2, hrf, hkd, rfl, hx, hMO⟩⟩
  · have o2 := hW2.o
    (repeat (refine zS_one rfl ?_; simp (disch := (first | decide | assumption | omega)) only [i_push, i_null, i_ild, i_ald, i_ist, i_ast, i_inc, i_bin, i_div, i_un, i_dup, i_pop, i_dup2, i_if, i_icmp, i_nul, i_nnl, i_goto, i_getf, i_putf, i_gets, i_nald, i_nast, i_aald, i_aast, i_alen, i_new, i_newa, i_newq, i_math, i_oini, i_iret, i_zret, i_aret, i_vret, z_fit, List.getElem?_cons_zero, List.getElem?_cons_succ, List.set_cons_zero, List.set_cons_succ, Nat.reduceAdd, Nat.reduceLT, Nat.reduceLeDiff, Nat.reduceEqDiff, Nat.zero_lt_succ, Value.category, true_and, or_true, true_or, and_true, false_implies, true_implies, not_false_eq_true, not_true_eq_false, List.map_cons, List.map_nil, List.sum_cons, List.sum_nil, va_up_eq, bx_uu, va_up_lit, List.length_cons, List.length_nil, List.drop_succ_cons, List.drop_zero, Option.toList_some, Option.toList_none, List.cons_append, List.nil_append, o2, n1]))
    have hMO : ∀ fs, fs = mF (va_up S2 0 (nI n)) → MO (va_up h2.1 15 (.inr (6, fs)), h2.2) ns n made den G m ps V (va_up S2 0 (nI n)) A2 := fun fs hfs => hM.mv (c := 0) ⟨hW2.1.fld hfs, va_up_eq _ _ _, hW2.2.2.drop hx⟩ exM.rf ⟨(va_up_lit _ _ _ _ (by decide)).trans (hS 1 (by omega)), (va_up_lit _ _ _ _ (by decide)).trans (hS 2 (by omega)), (va_up_lit _ _ _ _ (by decide)).trans (hS 3 (by omega))⟩ (fun p z1 z2 => hA p (by omega))
    refine hP _ _ ⟨(hf1.tr hf).tr (frN.put (by decide) (by decide)), Or.inr ⟨rfl, Or.inr hrf, _, _, hMO _ ?_⟩⟩
    unfold mF; simp (disch := decide) only [va_up_eq, va_up_lit]
end MOI
