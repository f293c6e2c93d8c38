theorem c_isDoneW {h0 : zH} {S : Nat → Int32} {A : Nat → Nat → Int32} {n : Nat} {den : Nat → zT} {I : Nat → Int32} (sc : Nat × (Nat → Int32)) (d : Nat) (hW : MW h0 S A n den) {s : Nat} (hs : s < 12) (e25 : A 25 s = I 0) (e35 : A 35 s = I 7) (hI : iOK I) (hst : ¬ lim I < I 7) : zMt zTab sc (d + 2) 98 [.ref 15, .int (nI s)] h0 0 0 (fun r h' => h' = h0 ∧ ((r = some (.int 1) ∧ ¬ I 7 < lim I) ∨ (r = some (.int 0) ∧ I 7 < lim I))) := by
  have o := hW.o
  have a25 := hW.a 25 0 12 (by decide) (by decide) rfl rfl
  have a35 := hW.a 35 0 12 (by decide) (by decide) rfl rfl
  have w3 : vp_in (nI s) 12 := vp_in_nI (by omega) (by decide)
  have w4 : (nI s).toNatClampNeg = s := nI_clamp (by omega)
  refine zM_gen fun P hP => ?_
  refine zM_start (r := r_Mo_isDone) (cd := k_Mo_isDone) (L0 := [some (.ref 15), some (.int (nI s))]) rfl rfl rfl rfl rfl ?_
  (repeat (refine zS_one rfl ?_; simp (disch := (first | decide | assumption | omega)) only [i_push, i_null, i_ild, i_ald, i_ist, i_ast, i_inc, i_bin, i_div, i_un, i_dup, i_pop, i_dup2, i_if, i_icmp, i_nul, i_nnl, i_goto, i_getf, i_putf, i_gets, i_nald, i_nast, i_aald, i_aast, i_alen, i_new, i_newa, i_newq, i_math, i_oini, i_iret, i_zret, i_aret, i_vret, z_fit, List.getElem?_cons_zero, List.getElem?_cons_succ, List.set_cons_zero, List.set_cons_succ, Nat.reduceAdd, Nat.reduceLT, Nat.reduceLeDiff, Nat.reduceEqDiff, Nat.zero_lt_succ, Value.category, true_and, or_true, true_or, and_true, false_implies, true_implies, not_false_eq_true, not_true_eq_false, List.map_cons, List.map_nil, List.sum_cons, List.sum_nil, va_up_eq, bx_uu, va_up_lit, List.length_cons, List.length_nil, List.drop_succ_cons, List.drop_zero, Option.toList_some, Option.toList_none, List.cons_append, List.nil_append, o, a25, a35, w3, w4, e25, e35]))
  (try refine zS_one rfl ?_)
  refine r_callS (c_last sc d _ (I 0)) rfl rfl rfl rfl (Nat.le_refl _) (Nat.le_refl _) ?_
  rintro r h' ⟨rfl, rfl⟩
  by_cases z : I 7 = lim I
  · have z' : I 7 = (if I 0 = 0 then 3 else 2) := z
    (repeat (refine zS_one rfl ?_; simp (disch := (first | decide | assumption | omega)) only [i_push, i_null, i_ild, i_ald, i_ist, i_ast, i_inc, i_bin, i_div, i_un, i_dup, i_pop, i_dup2, i_if, i_icmp, i_nul, i_nnl, i_goto, i_getf, i_putf, i_gets, i_nald, i_nast, i_aald, i_aast, i_alen, i_new, i_newa, i_newq, i_math, i_oini, i_iret, i_zret, i_aret, i_vret, z_fit, List.getElem?_cons_zero, List.getElem?_cons_succ, List.set_cons_zero, List.set_cons_succ, Nat.reduceAdd, Nat.reduceLT, Nat.reduceLeDiff, Nat.reduceEqDiff, Nat.zero_lt_succ, Value.category, true_and, or_true, true_or, and_true, false_implies, true_implies, not_false_eq_true, not_true_eq_false, List.map_cons, List.map_nil, List.sum_cons, List.sum_nil, va_up_eq, bx_uu, va_up_lit, List.length_cons, List.length_nil, List.drop_succ_cons, List.drop_zero, Option.toList_some, Option.toList_none, List.cons_append, List.nil_append, z']))
    exact hP _ _ ⟨rfl, Or.inl ⟨rfl, (lim_eq hI hst).mp z⟩⟩
  · have z' : ¬ I 7 = (if I 0 = 0 then 3 else 2) := z
    (repeat (refine zS_one rfl ?_; simp (disch := (first | decide | assumption | omega)) only [i_push, i_null, i_ild, i_ald, i_ist, i_ast, i_inc, i_bin, i_div, i_un, i_dup, i_pop, i_dup2, i_if, i_icmp, i_nul, i_nnl, i_goto, i_getf, i_putf, i_gets, i_nald, i_nast, i_aald, i_aast, i_alen, i_new, i_newa, i_newq, i_math, i_oini, i_iret, i_zret, i_aret, i_vret, z_fit, List.getElem?_cons_zero, List.getElem?_cons_succ, List.set_cons_zero, List.set_cons_succ, Nat.reduceAdd, Nat.reduceLT, Nat.reduceLeDiff, Nat.reduceEqDiff, Nat.zero_lt_succ, Value.category, true_and, or_true, true_or, and_true, false_implies, true_implies, not_false_eq_true, not_true_eq_false, List.map_cons, List.map_nil, List.sum_cons, List.sum_nil, va_up_eq, bx_uu, va_up_lit, List.length_cons, List.length_nil, List.drop_succ_cons, List.drop_zero, Option.toList_some, Option.toList_none, List.cons_append, List.nil_append, z']))
    refine hP _ _ ⟨rfl, Or.inr ⟨rfl, ?_⟩⟩
    by_cases q : I 7 < lim I
    · exact q
    · exact absurd ((lim_eq hI hst).mpr q) z
