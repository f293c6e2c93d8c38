section MOP
variable {h0 : zH} {S : Nat → Int32} {A : Nat → Nat → Int32} {ns n made m : Nat} {den : Nat → zT} {G : Nat → Int32} {ps : Nat → List zT} {V : Nat → zV}
theorem buf_set {a b c n' t' : Nat} {den' : Nat → zT} {l : List zT} {τ : zT} (hr : mrow A n den a l) (hx : exM n den n' den' c) (ht : t' < n') (ed : den' t' = τ) : ∀ j σ, (l.set b τ)[j]? = some σ → ∃ t, t < n' ∧ upd (fillP A a l.length) b (nI t') j = nI t ∧ den' t = σ := by
  intro j σ hj
  have hjl : j < l.length := by
    have := (List.getElem?_eq_some_iff.mp hj).1
    rw [List.length_set] at this
    exact this
  by_cases z : j = b
  · subst z
    rw [List.getElem?_set_self hjl] at hj
    cases hj
    exact ⟨t', ht, upd_s, ed⟩
  · rw [List.getElem?_set_ne (fun q => z q.symm)] at hj
    obtain ⟨t, h1, h2, h3⟩ := hr.2.2 j σ hj
    refine ⟨t, Nat.lt_of_lt_of_le h1 hx.1, ?_, (hx.2.2 t h1).trans h3⟩
    rw [upd_n z]
    unfold fillP
    rw [if_pos hjl]
    exact h2
def chM (h0 : zH) (ns n made c : Nat) (den : Nat → zT) (G : Nat → Int32) (m : Nat) (ps : Nat → List zT) (V : Nat → zV) (i j : Int32) (τ : zT) : zP := fun r h' =>
  ∃ a b, inP m ps i j a b ∧ ((r = some (.int (-4)) ∧ h' = h0 ∧ m = 60) ∨ (r = some (.int (nI m)) ∧ m < 60 ∧ frN h0 h' ∧ ∃ n' den' S' A', exM n den n' den' c ∧ MO h' ns n' made den' G (m + 1) (va_up ps m ((ps a).set b τ)) V S' A'))
set_option maxHeartbeats 8000000 in
theorem c_Mreplace (sc : Nat × (Nat → Int32)) (d : Nat) (hM : MO h0 ns n made den G m ps V S A) (hn : n < 1200) (i j v : Int32) : zMt zTab sc (d + 3) 111 [.ref 15, .int i, .int j, .int v] h0 0 0 (fun r h' => (r = some (.int (-1)) ∧ h' = h0 ∧ ∀ a b, ¬ inP m ps i j a b) ∨ chM h0 ns n made 1 den G m ps V i j (tN v) r h') := by
  have hW := hM.1
  have o := hW.o
  rw [hM.2.1.1] at o
  have hm6 := hM.2.2.1.2.1
  have q10 : ¬ (1 : Int32) = 0 := by decide
  refine zM_gen fun P hP => ?_
  refine zM_start (r := r_Mo_replace) (cd := k_Mo_replace) (L0 := [some (.ref 15), some (.int i), some (.int j), some (.int v)]) rfl rfl rfl rfl rfl ?_
  (repeat (refine zS_one rfl ?_; simp (disch := (first | decide | assumption | omega)) only [i_push, i_null, i_ild, i_ald, i_ist, i_ast, i_inc, i_bin, i_div, i_un, i_dup, i_pop, i_dup2, i_if, i_icmp, i_nul, i_nnl, i_goto, i_getf, i_putf, i_gets, i_nald, i_nast, i_aald, i_aast, i_alen, i_new, i_newa, i_newq, i_math, i_oini, i_iret, i_zret, i_aret, i_vret, z_fit, List.getElem?_cons_zero, List.getElem?_cons_succ, List.set_cons_zero, List.set_cons_succ, Nat.reduceAdd, Nat.reduceLT, Nat.reduceLeDiff, Nat.reduceEqDiff, Nat.zero_lt_succ, Value.category, true_and, or_true, true_or, and_true, false_implies, true_implies, not_false_eq_true, not_true_eq_false, List.map_cons, List.map_nil, List.sum_cons, List.sum_nil, va_up_eq, bx_uu, va_up_lit, List.length_cons, List.length_nil, List.drop_succ_cons, List.drop_zero, Option.toList_some, Option.toList_none, List.cons_append, List.nil_append]))
  (try refine zS_one rfl ?_)
  refine r_callV (c_isPart sc d hM i j) rfl rfl rfl rfl hW.f (Nat.le_refl _) (Nat.le_refl _) ?_
  rintro r h' ⟨rfl, ⟨rfl, a, b, hab⟩ | ⟨rfl, hno⟩⟩
  rotate_left
  · (repeat (refine zS_one rfl ?_; simp (disch := (first | decide | assumption | omega)) only [i_push, i_null, i_ild, i_ald, i_ist, i_ast, i_inc, i_bin, i_div, i_un, i_dup, i_pop, i_dup2, i_if, i_icmp, i_nul, i_nnl, i_goto, i_getf, i_putf, i_gets, i_nald, i_nast, i_aald, i_aast, i_alen, i_new, i_newa, i_newq, i_math, i_oini, i_iret, i_zret, i_aret, i_vret, z_fit, List.getElem?_cons_zero, List.getElem?_cons_succ, List.set_cons_zero, List.set_cons_succ, Nat.reduceAdd, Nat.reduceLT, Nat.reduceLeDiff, Nat.reduceEqDiff, Nat.zero_lt_succ, Value.category, true_and, or_true, true_or, and_true, false_implies, true_implies, not_false_eq_true, not_true_eq_false, List.map_cons, List.map_nil, List.sum_cons, List.sum_nil, va_up_eq, bx_uu, va_up_lit, List.length_cons, List.length_nil, List.drop_succ_cons, List.drop_zero, Option.toList_some, Option.toList_none, List.cons_append, List.nil_append]))
    exact hP _ _ (Or.inl ⟨rfl, rfl, hno⟩)
  by_cases hm : m = 60
  · have c60' : nI m = 60 := by rw [hm]; decide
    (repeat (refine zS_one rfl ?_; simp (disch := (first | decide | assumption | omega)) only [i_push, i_null, i_ild, i_ald, i_ist, i_ast, i_inc, i_bin, i_div, i_un, i_dup, i_pop, i_dup2, i_if, i_icmp, i_nul, i_nnl, i_goto, i_getf, i_putf, i_gets, i_nald, i_nast, i_aald, i_aast, i_alen, i_new, i_newa, i_newq, i_math, i_oini, i_iret, i_zret, i_aret, i_vret, z_fit, List.getElem?_cons_zero, List.getElem?_cons_succ, List.set_cons_zero, List.set_cons_succ, Nat.reduceAdd, Nat.reduceLT, Nat.reduceLeDiff, Nat.reduceEqDiff, Nat.zero_lt_succ, Value.category, true_and, or_true, true_or, and_true, false_implies, true_implies, not_false_eq_true, not_true_eq_false, List.map_cons, List.map_nil, List.sum_cons, List.sum_nil, va_up_eq, bx_uu, va_up_lit, List.length_cons, List.length_nil, List.drop_succ_cons, List.drop_zero, Option.toList_some, Option.toList_none, List.cons_append, List.nil_append, o, q10, c60']))
    exact hP _ _ (Or.inr ⟨a, b, hab, Or.inl ⟨rfl, rfl, hm⟩⟩)
  have c60' : ¬ nI m = 60 := fun z => hm (nI_inj (a := m) (b := 60) (by omega) (by decide) (z.trans c60))
  obtain ⟨h1, rfl, rfl, h4⟩ := id hab
  have hr := hM.2.2.2.2.1 a h1
  have hl3 := hr.2.1
  (repeat (refine zS_one rfl ?_; simp (disch := (first | decide | assumption | omega)) only [i_push, i_null, i_ild, i_ald, i_ist, i_ast, i_inc, i_bin, i_div, i_un, i_dup, i_pop, i_dup2, i_if, i_icmp, i_nul, i_nnl, i_goto, i_getf, i_putf, i_gets, i_nald, i_nast, i_aald, i_aast, i_alen, i_new, i_newa, i_newq, i_math, i_oini, i_iret, i_zret, i_aret, i_vret, z_fit, List.getElem?_cons_zero, List.getElem?_cons_succ, List.set_cons_zero, List.set_cons_succ, Nat.reduceAdd, Nat.reduceLT, Nat.reduceLeDiff, Nat.reduceEqDiff, Nat.zero_lt_succ, Value.category, true_and, or_true, true_or, and_true, false_implies, true_implies, not_false_eq_true, not_true_eq_false, List.map_cons, List.map_nil, List.sum_cons, List.sum_nil, va_up_eq, bx_uu, va_up_lit, List.length_cons, List.length_nil, List.drop_succ_cons, List.drop_zero, Option.toList_some, Option.toList_none, List.cons_append, List.nil_append, o, q10, c60']))
  (try refine zS_one rfl ?_)
  refine r_callV (c_fetch sc (d + 1) hW (by omega) hl3 hr.1) rfl rfl rfl rfl hW.f (Nat.le_refl _) (Nat.le_refl _) ?_
  rintro r h1' ⟨rfl, hW1, hf1⟩
  have o1 := hW1.o
  (repeat (refine zS_one rfl ?_; simp (disch := (first | decide | assumption | omega)) only [i_push, i_null, i_ild, i_ald, i_ist, i_ast, i_inc, i_bin, i_div, i_un, i_dup, i_pop, i_dup2, i_if, i_icmp, i_nul, i_nnl, i_goto, i_getf, i_putf, i_gets, i_nald, i_nast, i_aald, i_aast, i_alen, i_new, i_newa, i_newq, i_math, i_oini, i_iret, i_zret, i_aret, i_vret, z_fit, List.getElem?_cons_zero, List.getElem?_cons_succ, List.set_cons_zero, List.set_cons_succ, Nat.reduceAdd, Nat.reduceLT, Nat.reduceLeDiff, Nat.reduceEqDiff, Nat.zero_lt_succ, Value.category, true_and, or_true, true_or, and_true, false_implies, true_implies, not_false_eq_true, not_true_eq_false, List.map_cons, List.map_nil, List.sum_cons, List.sum_nil, va_up_eq, bx_uu, va_up_lit, List.length_cons, List.length_nil, List.drop_succ_cons, List.drop_zero, Option.toList_some, Option.toList_none, List.cons_append, List.nil_append, o1]))
  (try refine zS_one rfl ?_)
  refine r_callV (c_Mnum sc d hW1 hn v) rfl rfl rfl rfl hW1.f (Nat.le_refl _) (Nat.le_refl _) ?_
  rintro r h2 ⟨t, n2, den2, S2, A2, rfl, ht, ed, hW2, hx, hS, hA, hf2⟩
  have o2 := hW2.o
  have s12 : S2 12 = nI (ps a).length := (hS 12 (by decide)).trans (va_up_eq _ _ _)
  rw [s12] at o2
  have a43 := hW2.a 43 0 3 (by decide) (by decide) rfl rfl
  have w3 : vp_in (nI b) 3 := vp_in_nI (by omega) (by decide)
  have w4 : (nI b).toNatClampNeg = b := nI_clamp (by omega)
  have e43 : A2 43 = fillP A a (ps a).length := by rw [hA 43 (by decide), va_up_eq]
  have hAA : ∀ p, 20 < p → p < 43 → A2 p = A p := fun p z1 z2 => by rw [hA p z1, va_up_lit _ _ _ _ (by omega)]
  have hW3 := hW2.put 43 (upd (A2 43) b (nI t)) (kd := 0) (ln := 3) (by decide) (by decide) rfl rfl
  have s1 : S2 1 = nI m := (hS 1 (by decide)).trans ((va_up_lit _ _ _ _ (by decide)).trans hM.2.1.1)
  (repeat (refine zS_one rfl ?_; simp (disch := (first | decide | assumption | omega)) only [i_push, i_null, i_ild, i_ald, i_ist, i_ast, i_inc, i_bin, i_div, i_un, i_dup, i_pop, i_dup2, i_if, i_icmp, i_nul, i_nnl, i_goto, i_getf, i_putf, i_gets, i_nald, i_nast, i_aald, i_aast, i_alen, i_new, i_newa, i_newq, i_math, i_oini, i_iret, i_zret, i_aret, i_vret, z_fit, List.getElem?_cons_zero, List.getElem?_cons_succ, List.set_cons_zero, List.set_cons_succ, Nat.reduceAdd, Nat.reduceLT, Nat.reduceLeDiff, Nat.reduceEqDiff, Nat.zero_lt_succ, Value.category, true_and, or_true, true_or, and_true, false_implies, true_implies, not_false_eq_true, not_true_eq_false, List.map_cons, List.map_nil, List.sum_cons, List.sum_nil, va_up_eq, bx_uu, va_up_lit, List.length_cons, List.length_nil, List.drop_succ_cons, List.drop_zero, Option.toList_some, Option.toList_none, List.cons_append, List.nil_append, o2, a43, w3, w4]))
  (try refine zS_one rfl ?_)
  refine r_callV (c_newMessage sc (d + 1) hW3 (by omega) hl3 s1) rfl rfl rfl rfl hW3.f (Nat.le_refl _) (Nat.le_refl _) ?_
  rintro r h5 ⟨rfl, hW5, hf5⟩
  (repeat (refine zS_one rfl ?_; simp (disch := (first | decide | assumption | omega)) only [i_push, i_null, i_ild, i_ald, i_ist, i_ast, i_inc, i_bin, i_div, i_un, i_dup, i_pop, i_dup2, i_if, i_icmp, i_nul, i_nnl, i_goto, i_getf, i_putf, i_gets, i_nald, i_nast, i_aald, i_aast, i_alen, i_new, i_newa, i_newq, i_math, i_oini, i_iret, i_zret, i_aret, i_vret, z_fit, List.getElem?_cons_zero, List.getElem?_cons_succ, List.set_cons_zero, List.set_cons_succ, Nat.reduceAdd, Nat.reduceLT, Nat.reduceLeDiff, Nat.reduceEqDiff, Nat.zero_lt_succ, Value.category, true_and, or_true, true_or, and_true, false_implies, true_implies, not_false_eq_true, not_true_eq_false, List.map_cons, List.map_nil, List.sum_cons, List.sum_nil, va_up_eq, bx_uu, va_up_lit, List.length_cons, List.length_nil, List.drop_succ_cons, List.drop_zero, Option.toList_some, Option.toList_none, List.cons_append, List.nil_append]))
  have hls : ((ps a).set b (tN v)).length = (ps a).length := List.length_set
  rw [← hls] at hW5
  have hMO := hM.msg (V' := V) (l := (ps a).set b (tN v)) (by omega) hx hW5 (by rw [hls]; exact hl3) (by rw [va_up_eq, e43]; exact buf_set hr hx ht ed) ((hS 2 (by decide)).trans ((va_up_lit _ _ _ _ (by decide)).trans hM.2.1.2.1)) hM.2.2.1.2.2 ((hS 3 (by decide)).trans (va_up_lit _ _ _ _ (by decide))) (by rw [va_up_lit _ _ _ _ (by decide)]; exact hAA 22 (by decide) (by decide)) (by rw [va_up_lit _ _ _ _ (by decide)]; exact hAA 23 (by decide) (by decide)) (by rw [va_up_lit _ _ _ _ (by decide)]; exact hAA 24 (by decide) (by decide)) (fun s hs => (hM.2.2.2.2.2.1 s hs).ext hx (fun p z1 z2 => by rw [va_up_lit _ _ _ _ (by omega), hAA p (by omega) (by omega)])) (fun p t z1 z2 z3 z4 => by rw [va_up_lit _ _ _ _ (by omega), hAA p (by omega) (by omega)]; exact hM.2.2.2.2.2.2 p t z1 z2 z3 z4)
  exact hP _ _ (Or.inr ⟨a, b, hab, Or.inr ⟨rfl, by omega, ((hf1.tr hf2).tr (frN.put (by decide) (by decide))).tr hf5, n2, den2, _, _, hx, hMO⟩⟩)
end MOP
