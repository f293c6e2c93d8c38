section MOQ
variable {h0 : zH} {S : Nat → Int32} {A : Nat → Nat → Int32} {ns n made m : Nat} {den : Nat → zT} {G : Nat → Int32} {ps : Nat → List zT} {V : Nat → zV}
set_option maxHeartbeats 8000000 in
theorem c_Msplice (sc : Nat × (Nat → Int32)) (d : Nat) (hM : MO h0 ns n made den G m ps V S A) (i j i' j' : Int32) : zMt zTab sc (d + 3) 110 [.ref 15, .int i, .int j, .int i', .int j'] h0 0 0 (fun r h' => (r = some (.int (-1)) ∧ h' = h0 ∧ ((∀ a b, ¬ inP m ps i j a b) ∨ ∀ a b, ¬ inP m ps i' j' a b)) ∨ ∃ a b τ, inP m ps i' j' a b ∧ (ps a)[b]? = some τ ∧ chM h0 ns n made 0 den G m ps V i j τ r h') := by
  have hW := hM.1
  have o := hW.o
  rw [hM.2.1.1] at o
  have hm6 := hM.2.2.1.2.1
  have q10 : ¬ (1 : Int32) = 0 := by decide
  refine zM_gen fun P hP => ?_
  refine zM_start (r := r_Mo_splice) (cd := k_Mo_splice) (L0 := [some (.ref 15), some (.int i), some (.int j), some (.int i'), some (.int j')]) rfl rfl rfl rfl rfl ?_
  (repeat (refine zS_one rfl ?_; simp (disch := (first | decide | assumption | omega)) only [i_push, i_null, i_ild, i_ald, i_ist, i_ast, i_inc, i_bin, i_div, i_un, i_dup, i_pop, i_dup2, i_if, i_icmp, i_nul, i_nnl, i_goto, i_getf, i_putf, i_gets, i_nald, i_nast, i_aald, i_aast, i_alen, i_new, i_newa, i_newq, i_math, i_oini, i_iret, i_zret, i_aret, i_vret, z_fit, List.getElem?_cons_zero, List.getElem?_cons_succ, List.set_cons_zero, List.set_cons_succ, Nat.reduceAdd, Nat.reduceLT, Nat.reduceLeDiff, Nat.reduceEqDiff, Nat.zero_lt_succ, Value.category, true_and, or_true, true_or, and_true, false_implies, true_implies, not_false_eq_true, not_true_eq_false, List.map_cons, List.map_nil, List.sum_cons, List.sum_nil, va_up_eq, bx_uu, va_up_lit, List.length_cons, List.length_nil, List.drop_succ_cons, List.drop_zero, Option.toList_some, Option.toList_none, List.cons_append, List.nil_append]))
  (try refine zS_one rfl ?_)
  refine r_callV (c_isPart sc d hM i j) rfl rfl rfl rfl hW.f (Nat.le_refl _) (Nat.le_refl _) ?_
  rintro r h' ⟨rfl, ⟨rfl, a, b, hab⟩ | ⟨rfl, hno⟩⟩
  rotate_left
  · (repeat (refine zS_one rfl ?_; simp (disch := (first | decide | assumption | omega)) only [i_push, i_null, i_ild, i_ald, i_ist, i_ast, i_inc, i_bin, i_div, i_un, i_dup, i_pop, i_dup2, i_if, i_icmp, i_nul, i_nnl, i_goto, i_getf, i_putf, i_gets, i_nald, i_nast, i_aald, i_aast, i_alen, i_new, i_newa, i_newq, i_math, i_oini, i_iret, i_zret, i_aret, i_vret, z_fit, List.getElem?_cons_zero, List.getElem?_cons_succ, List.set_cons_zero, List.set_cons_succ, Nat.reduceAdd, Nat.reduceLT, Nat.reduceLeDiff, Nat.reduceEqDiff, Nat.zero_lt_succ, Value.category, true_and, or_true, true_or, and_true, false_implies, true_implies, not_false_eq_true, not_true_eq_false, List.map_cons, List.map_nil, List.sum_cons, List.sum_nil, va_up_eq, bx_uu, va_up_lit, List.length_cons, List.length_nil, List.drop_succ_cons, List.drop_zero, Option.toList_some, Option.toList_none, List.cons_append, List.nil_append]))
    exact hP _ _ (Or.inl ⟨rfl, rfl, Or.inl hno⟩)
  (repeat (refine zS_one rfl ?_; simp (disch := (first | decide | assumption | omega)) only [i_push, i_null, i_ild, i_ald, i_ist, i_ast, i_inc, i_bin, i_div, i_un, i_dup, i_pop, i_dup2, i_if, i_icmp, i_nul, i_nnl, i_goto, i_getf, i_putf, i_gets, i_nald, i_nast, i_aald, i_aast, i_alen, i_new, i_newa, i_newq, i_math, i_oini, i_iret, i_zret, i_aret, i_vret, z_fit, List.getElem?_cons_zero, List.getElem?_cons_succ, List.set_cons_zero, List.set_cons_succ, Nat.reduceAdd, Nat.reduceLT, Nat.reduceLeDiff, Nat.reduceEqDiff, Nat.zero_lt_succ, Value.category, true_and, or_true, true_or, and_true, false_implies, true_implies, not_false_eq_true, not_true_eq_false, List.map_cons, List.map_nil, List.sum_cons, List.sum_nil, va_up_eq, bx_uu, va_up_lit, List.length_cons, List.length_nil, List.drop_succ_cons, List.drop_zero, Option.toList_some, Option.toList_none, List.cons_append, List.nil_append, q10]))
  (try refine zS_one rfl ?_)
  refine r_callV (c_isPart sc d hM i' j') rfl rfl rfl rfl hW.f (Nat.le_refl _) (Nat.le_refl _) ?_
  rintro r h' ⟨rfl, ⟨rfl, a', b', hab'⟩ | ⟨rfl, hno⟩⟩
  rotate_left
  · (repeat (refine zS_one rfl ?_; simp (disch := (first | decide | assumption | omega)) only [i_push, i_null, i_ild, i_ald, i_ist, i_ast, i_inc, i_bin, i_div, i_un, i_dup, i_pop, i_dup2, i_if, i_icmp, i_nul, i_nnl, i_goto, i_getf, i_putf, i_gets, i_nald, i_nast, i_aald, i_aast, i_alen, i_new, i_newa, i_newq, i_math, i_oini, i_iret, i_zret, i_aret, i_vret, z_fit, List.getElem?_cons_zero, List.getElem?_cons_succ, List.set_cons_zero, List.set_cons_succ, Nat.reduceAdd, Nat.reduceLT, Nat.reduceLeDiff, Nat.reduceEqDiff, Nat.zero_lt_succ, Value.category, true_and, or_true, true_or, and_true, false_implies, true_implies, not_false_eq_true, not_true_eq_false, List.map_cons, List.map_nil, List.sum_cons, List.sum_nil, va_up_eq, bx_uu, va_up_lit, List.length_cons, List.length_nil, List.drop_succ_cons, List.drop_zero, Option.toList_some, Option.toList_none, List.cons_append, List.nil_append]))
    exact hP _ _ (Or.inl ⟨rfl, rfl, Or.inr hno⟩)
  obtain ⟨t, τ, ht, et, ed, hg, hl'⟩ := hM.part hab'
  by_cases hm : m = 60
  · have c60' : nI m = 60 := by rw [hm]; decide
    (repeat (refine zS_one rfl ?_; simp (disch := (first | decide | assumption | omega)) only [i_push, i_null, i_ild, i_ald, i_ist, i_ast, i_inc, i_bin, i_div, i_un, i_dup, i_pop, i_dup2, i_if, i_icmp, i_nul, i_nnl, i_goto, i_getf, i_putf, i_gets, i_nald, i_nast, i_aald, i_aast, i_alen, i_new, i_newa, i_newq, i_math, i_oini, i_iret, i_zret, i_aret, i_vret, z_fit, List.getElem?_cons_zero, List.getElem?_cons_succ, List.set_cons_zero, List.set_cons_succ, Nat.reduceAdd, Nat.reduceLT, Nat.reduceLeDiff, Nat.reduceEqDiff, Nat.zero_lt_succ, Value.category, true_and, or_true, true_or, and_true, false_implies, true_implies, not_false_eq_true, not_true_eq_false, List.map_cons, List.map_nil, List.sum_cons, List.sum_nil, va_up_eq, bx_uu, va_up_lit, List.length_cons, List.length_nil, List.drop_succ_cons, List.drop_zero, Option.toList_some, Option.toList_none, List.cons_append, List.nil_append, o, q10, c60']))
    exact hP _ _ (Or.inr ⟨a', b', τ, hab', hg, a, b, hab, Or.inl ⟨rfl, rfl, hm⟩⟩)
  have c60' : ¬ nI m = 60 := fun z => hm (nI_inj (a := m) (b := 60) (by omega) (by decide) (z.trans c60))
  obtain ⟨h1, rfl, rfl, h4⟩ := id hab
  obtain ⟨g1, rfl, rfl, g4⟩ := id hab'
  have hr := hM.2.2.2.2.1 a h1
  have hl3 := hr.2.1
  (repeat (refine zS_one rfl ?_; simp (disch := (first | decide | assumption | omega)) only [i_push, i_null, i_ild, i_ald, i_ist, i_ast, i_inc, i_bin, i_div, i_un, i_dup, i_pop, i_dup2, i_if, i_icmp, i_nul, i_nnl, i_goto, i_getf, i_putf, i_gets, i_nald, i_nast, i_aald, i_aast, i_alen, i_new, i_newa, i_newq, i_math, i_oini, i_iret, i_zret, i_aret, i_vret, z_fit, List.getElem?_cons_zero, List.getElem?_cons_succ, List.set_cons_zero, List.set_cons_succ, Nat.reduceAdd, Nat.reduceLT, Nat.reduceLeDiff, Nat.reduceEqDiff, Nat.zero_lt_succ, Value.category, true_and, or_true, true_or, and_true, false_implies, true_implies, not_false_eq_true, not_true_eq_false, List.map_cons, List.map_nil, List.sum_cons, List.sum_nil, va_up_eq, bx_uu, va_up_lit, List.length_cons, List.length_nil, List.drop_succ_cons, List.drop_zero, Option.toList_some, Option.toList_none, List.cons_append, List.nil_append, o, q10, c60']))
  (try refine zS_one rfl ?_)
  refine r_callV (c_fetch sc (d + 1) hW (by omega) hl3 hr.1) rfl rfl rfl rfl hW.f (Nat.le_refl _) (Nat.le_refl _) ?_
  rintro r h2 ⟨rfl, hW2, hf2⟩
  have o2 := hW2.o
  have s12 : va_up S 12 (nI (ps a).length) 12 = nI (ps a).length := va_up_eq _ _ _
  rw [s12] at o2
  have a43 := hW2.a 43 0 3 (by decide) (by decide) rfl rfl
  have a23 := hW2.a 23 0 180 (by decide) (by decide) rfl rfl
  rw [va_up_eq] at a43
  rw [va_up_lit _ _ _ _ (by decide)] at a23
  have w3 : vp_in (nI b) 3 := vp_in_nI (by omega) (by decide)
  have w4 : (nI b).toNatClampNeg = b := nI_clamp (by omega)
  have v1 : vp_in (nI (3 * a' + b')) 180 := vp_in_nI (by omega) (by decide)
  have v2 : (nI (3 * a' + b')).toNatClampNeg = 3 * a' + b' := nI_clamp (by omega)
  have hW3 := hW2.put 43 (upd (fillP A a (ps a).length) b (nI t)) (kd := 0) (ln := 3) (by decide) (by decide) rfl rfl
  have s1 : va_up S 12 (nI (ps a).length) 1 = nI m := (va_up_lit _ _ _ _ (by decide)).trans hM.2.1.1
  (repeat (refine zS_one rfl ?_; simp (disch := (first | decide | assumption | omega)) only [i_push, i_null, i_ild, i_ald, i_ist, i_ast, i_inc, i_bin, i_div, i_un, i_dup, i_pop, i_dup2, i_if, i_icmp, i_nul, i_nnl, i_goto, i_getf, i_putf, i_gets, i_nald, i_nast, i_aald, i_aast, i_alen, i_new, i_newa, i_newq, i_math, i_oini, i_iret, i_zret, i_aret, i_vret, z_fit, List.getElem?_cons_zero, List.getElem?_cons_succ, List.set_cons_zero, List.set_cons_succ, Nat.reduceAdd, Nat.reduceLT, Nat.reduceLeDiff, Nat.reduceEqDiff, Nat.zero_lt_succ, Value.category, true_and, or_true, true_or, and_true, false_implies, true_implies, not_false_eq_true, not_true_eq_false, List.map_cons, List.map_nil, List.sum_cons, List.sum_nil, va_up_eq, bx_uu, va_up_lit, List.length_cons, List.length_nil, List.drop_succ_cons, List.drop_zero, Option.toList_some, Option.toList_none, List.cons_append, List.nil_append, o2, a43, a23, w3, w4, nI_3, v1, v2, et]))
  (try refine zS_one rfl ?_)
  refine r_callV (c_newMessage sc (d + 1) hW3 (by omega) hl3 s1) rfl rfl rfl rfl hW3.f (Nat.le_refl _) (Nat.le_refl _) ?_
  rintro r h5 ⟨rfl, hW5, hf5⟩
  (repeat (refine zS_one rfl ?_; simp (disch := (first | decide | assumption | omega)) only [i_push, i_null, i_ild, i_ald, i_ist, i_ast, i_inc, i_bin, i_div, i_un, i_dup, i_pop, i_dup2, i_if, i_icmp, i_nul, i_nnl, i_goto, i_getf, i_putf, i_gets, i_nald, i_nast, i_aald, i_aast, i_alen, i_new, i_newa, i_newq, i_math, i_oini, i_iret, i_zret, i_aret, i_vret, z_fit, List.getElem?_cons_zero, List.getElem?_cons_succ, List.set_cons_zero, List.set_cons_succ, Nat.reduceAdd, Nat.reduceLT, Nat.reduceLeDiff, Nat.reduceEqDiff, Nat.zero_lt_succ, Value.category, true_and, or_true, true_or, and_true, false_implies, true_implies, not_false_eq_true, not_true_eq_false, List.map_cons, List.map_nil, List.sum_cons, List.sum_nil, va_up_eq, bx_uu, va_up_lit, List.length_cons, List.length_nil, List.drop_succ_cons, List.drop_zero, Option.toList_some, Option.toList_none, List.cons_append, List.nil_append]))
  have hls : ((ps a).set b τ).length = (ps a).length := List.length_set
  rw [← hls] at hW5
  have hMO := hM.msg (V' := V) (l := (ps a).set b τ) (c := 0) (by omega) exM.rf hW5 (by rw [hls]; exact hl3) (by rw [va_up_eq, hls]; exact buf_set hr (c := 0) exM.rf ht ed) ((va_up_lit _ _ _ _ (by decide)).trans hM.2.1.2.1) hM.2.2.1.2.2 (va_up_lit _ _ _ _ (by decide)) (by rw [va_up_lit _ _ _ _ (by decide), va_up_lit _ _ _ _ (by decide)]) (by rw [va_up_lit _ _ _ _ (by decide), va_up_lit _ _ _ _ (by decide)]) (by rw [va_up_lit _ _ _ _ (by decide), va_up_lit _ _ _ _ (by decide)]) (fun s hs => (hM.2.2.2.2.2.1 s hs).ext (c := 0) exM.rf (fun p z1 z2 => by rw [va_up_lit _ _ _ _ (by omega), va_up_lit _ _ _ _ (by omega)])) (fun p t z1 z2 z3 z4 => by rw [va_up_lit _ _ _ _ (by omega), va_up_lit _ _ _ _ (by omega)]; exact hM.2.2.2.2.2.2 p t z1 z2 z3 z4)
  exact hP _ _ (Or.inr ⟨a', b', τ, hab', hg, a, b, hab, Or.inr ⟨rfl, by omega, (hf2.tr (frN.put (by decide) (by decide))).tr hf5, n, den, _, _, exM.rf, hMO⟩⟩)
end MOQ
