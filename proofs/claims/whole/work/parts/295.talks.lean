section ST6
variable {h0 : zH} {ns n k m : Nat} {den : Nat → zT} {G : Nat → Int32} {ps : Nat → List zT} {V : Nat → zV}
theorem sOK_note {h h' : zH} {b : Nat} {I : Nat → Int32} {Θ : Nat → zT} {K : Nat → Int32} (hs : sOK h b n den I Θ K) (v : Int32) (h1 : h' = (va_up h.1 b (.inr (3, sF b (noteI I v))), h.2)) : sOK h' b n den (noteI I v) Θ K := by
  have t1 : ∀ q, q < 10 → noteI I v q = I q := fun q hq => by unfold noteI; rw [va_up_lit _ _ _ _ (by omega), va_up_lit _ _ _ _ (by omega)]
  have t2 : ∀ q, 12 ≤ q → noteI I v q = I q := fun q hq => by unfold noteI; rw [va_up_lit _ _ _ _ (by omega), va_up_lit _ _ _ _ (by omega)]
  have h2 : ∀ q, q ≠ b → h'.1 q = h.1 q := fun q hq => by rw [h1]; exact va_up_lit _ _ _ _ hq
  have h3 : h'.1 b = .inr (3, sF b (noteI I v)) := by rw [h1]; exact va_up_eq _ _ _
  obtain ⟨e1, ⟨sk, rk, e2, hk⟩, e3, ⟨x, y, z, ea, hx, hy, hz, hI⟩, ⟨J, hJ, eJ⟩, h8⟩ := hs
  have hl : lim (noteI I v) = lim I := by unfold lim; rw [t1 0 (by decide)]
  refine ⟨h3, ⟨sk, rk, ?_, ?_⟩, (h2 _ (by omega)).trans e3, ⟨x, y, z, ?_, hx, hy, hz, ?_⟩, ⟨J, hJ, (h2 _ (by omega)).trans eJ⟩, by rw [t1 8 (by decide)]; exact h8⟩
  · rw [h2 _ (by omega), e2]
    unfold cF
    rw [t2 12 (by decide), t2 13 (by decide)]
  · rw [hl, t1 7 (by decide)]
    intro w
    have := hk w
    unfold keyed skT rkT at this ⊢
    rw [t1 1 (by decide)]
    exact this
  · rw [h2 _ (by omega), ea]
    unfold aF
    rw [t1 0 (by decide), t1 1 (by decide), t1 2 (by decide), t1 3 (by decide), t1 4 (by decide), t1 5 (by decide), t1 6 (by decide), t1 7 (by decide)]
  · unfold iOK
    rw [t1 0 (by decide), t1 1 (by decide), t1 2 (by decide), t1 3 (by decide), t1 4 (by decide), t1 5 (by decide), t1 7 (by decide)]
    exact hI
def dvQ (h0 : zH) (ns n k : Nat) (den : Nat → zT) (G : Nat → Int32) (m : Nat) (ps : Nat → List zT) (V : Nat → zV) (mi i : Int32) : zP := fun r h' =>
  (r = some (.int (-1)) ∧ h' = h0 ∧ ((∀ s, s < ns → i ≠ nI s) ∨ ∀ a, a < m → mi ≠ nI a)) ∨ ∃ s a, s < ns ∧ i = nI s ∧ a < m ∧ mi = nI a ∧ (
    (r = some (.int (-2)) ∧ h' = h0 ∧ ¬ (V s).1 8 = 0)
    ∨ ((V s).1 8 = 0 ∧ ¬ (V s).1 7 < lim (V s).1 ∧ frM h0 h' ∧ (
      (∃ v Z n' den', accC (ps a) (V s).1 (V s).2.1 (V s).2.2 v Z ∧ r = some (.int 1) ∧ ex0 n den n' den' ∧ cOK h' ns n' k den' G m ps (va_up V s (noteI (topI (V s).1 v) (tv Z), (V s).2.1, upd (V s).2.2 v.toNatClampNeg 1)))
      ∨ (r = some (.int 0) ∧ (∀ v Z, ¬ accC (ps a) (V s).1 (V s).2.1 (V s).2.2 v Z) ∧ ∃ n' den', ex0 n den n' den' ∧ cOK h' ns n' k den' G m ps V)))
    ∨ ((V s).1 8 = 0 ∧ (V s).1 7 < lim (V s).1 ∧ frM h0 h' ∧ (
      (∃ I' Θ' Z n' den', ¬ myT (V s).1 ∧ rfin (rowI (V s).1) (ps a) (V s).1 (V s).2.1 = some (I', Θ', Z) ∧ tkd Z = 1 ∧ r = some (.int 1) ∧ exq n den n' den' (crow (rowI (V s).1) + 5) ∧ cOK h' ns n' k den' G m ps (va_up V s (noteI (endI I') (tv Z), Θ', (V s).2.2)))
      ∨ (r = some (.int 0) ∧ (myT (V s).1 ∨ rfin (rowI (V s).1) (ps a) (V s).1 (V s).2.1 = none) ∧ cOK h' ns n k den G m ps V))))
theorem va_up_id {α : Type} (f : Nat → α) (s : Nat) : va_up f s (f s) = f := by
  funext t
  by_cases h : t = s
  · subst h; exact va_up_eq _ _ _
  · exact va_up_lit _ _ _ _ h
set_option maxHeartbeats 4000000 in
theorem c_Stdeliver (sc : Nat × (Nat → Int32)) (d : Nat) (hC : cOK h0 ns n k den G m ps V) (hn : n + 18 < 720) (mi i : Int32) : zMt zTab sc (d + 8) 60 [.ref 0, .int mi, .int i] h0 0 0 (dvQ h0 ns n k den G m ps V mi i) := by
  have hT := hC.2.2.2.1
  have hM := hC.2.2.2.2.1
  have e0 := hC.1
  have q10 : ¬ (1 : Int32) = 0 := by decide
  have h12 := hC.2.1
  refine zM_gen fun P hP => ?_
  refine zM_start (r := r_St_deliver) (cd := k_St_deliver) (L0 := [some (.ref 0), some (.int mi), some (.int i), none, none]) rfl rfl rfl rfl rfl ?_
  (repeat (refine zS_one rfl ?_; simp (disch := (first | decide | assumption | omega)) only [i_push, i_null, i_ild, i_ald, i_ist, i_ast, i_inc, i_bin, i_div, i_un, i_dup, i_pop, i_dup2, i_if, i_icmp, i_nul, i_nnl, i_goto, i_getf, i_putf, i_gets, i_nald, i_nast, i_aald, i_aast, i_alen, i_new, i_newa, i_newq, i_math, i_oini, i_iret, i_zret, i_aret, i_vret, z_fit, List.getElem?_cons_zero, List.getElem?_cons_succ, List.set_cons_zero, List.set_cons_succ, Nat.reduceAdd, Nat.reduceLT, Nat.reduceLeDiff, Nat.reduceEqDiff, Nat.zero_lt_succ, Value.category, true_and, or_true, true_or, and_true, false_implies, true_implies, not_false_eq_true, not_true_eq_false, List.map_cons, List.map_nil, List.sum_cons, List.sum_nil, va_up_eq, bx_uu, va_up_lit, List.length_cons, List.length_nil, List.drop_succ_cons, List.drop_zero, Option.toList_some, Option.toList_none, List.cons_append, List.nil_append]))
  (try refine zS_one rfl ?_)
  refine r_callV (c_sessionAt sc (d + 6) hC i) rfl rfl rfl rfl hC.1 (Nat.le_refl _) (Nat.le_refl _) ?_
  rintro r h' ⟨rfl, ⟨s, hs, rfl, rfl⟩ | ⟨rfl, hno⟩⟩
  rotate_left
  · (repeat (refine zS_one rfl ?_; simp (disch := (first | decide | assumption | omega)) only [i_push, i_null, i_ild, i_ald, i_ist, i_ast, i_inc, i_bin, i_div, i_un, i_dup, i_pop, i_dup2, i_if, i_icmp, i_nul, i_nnl, i_goto, i_getf, i_putf, i_gets, i_nald, i_nast, i_aald, i_aast, i_alen, i_new, i_newa, i_newq, i_math, i_oini, i_iret, i_zret, i_aret, i_vret, z_fit, List.getElem?_cons_zero, List.getElem?_cons_succ, List.set_cons_zero, List.set_cons_succ, Nat.reduceAdd, Nat.reduceLT, Nat.reduceLeDiff, Nat.reduceEqDiff, Nat.zero_lt_succ, Value.category, true_and, or_true, true_or, and_true, false_implies, true_implies, not_false_eq_true, not_true_eq_false, List.map_cons, List.map_nil, List.sum_cons, List.sum_nil, va_up_eq, bx_uu, va_up_lit, List.length_cons, List.length_nil, List.drop_succ_cons, List.drop_zero, Option.toList_some, Option.toList_none, List.cons_append, List.nil_append]))
    exact hP _ _ (Or.inl ⟨rfl, rfl, Or.inl hno⟩)
  (repeat (refine zS_one rfl ?_; simp (disch := (first | decide | assumption | omega)) only [i_push, i_null, i_ild, i_ald, i_ist, i_ast, i_inc, i_bin, i_div, i_un, i_dup, i_pop, i_dup2, i_if, i_icmp, i_nul, i_nnl, i_goto, i_getf, i_putf, i_gets, i_nald, i_nast, i_aald, i_aast, i_alen, i_new, i_newa, i_newq, i_math, i_oini, i_iret, i_zret, i_aret, i_vret, z_fit, List.getElem?_cons_zero, List.getElem?_cons_succ, List.set_cons_zero, List.set_cons_succ, Nat.reduceAdd, Nat.reduceLT, Nat.reduceLeDiff, Nat.reduceEqDiff, Nat.zero_lt_succ, Value.category, true_and, or_true, true_or, and_true, false_implies, true_implies, not_false_eq_true, not_true_eq_false, List.map_cons, List.map_nil, List.sum_cons, List.sum_nil, va_up_eq, bx_uu, va_up_lit, List.length_cons, List.length_nil, List.drop_succ_cons, List.drop_zero, Option.toList_some, Option.toList_none, List.cons_append, List.nil_append, e0]))
  (try refine zS_one rfl ?_)
  refine r_callV (c_has sc (d + 6) hM mi) rfl rfl rfl rfl hM.o (Nat.le_refl _) (Nat.le_refl _) ?_
  rintro r h' ⟨rfl, ⟨rfl, a, ha, rfl⟩ | ⟨rfl, hno⟩⟩
  rotate_left
  · (repeat (refine zS_one rfl ?_; simp (disch := (first | decide | assumption | omega)) only [i_push, i_null, i_ild, i_ald, i_ist, i_ast, i_inc, i_bin, i_div, i_un, i_dup, i_pop, i_dup2, i_if, i_icmp, i_nul, i_nnl, i_goto, i_getf, i_putf, i_gets, i_nald, i_nast, i_aald, i_aast, i_alen, i_new, i_newa, i_newq, i_math, i_oini, i_iret, i_zret, i_aret, i_vret, z_fit, List.getElem?_cons_zero, List.getElem?_cons_succ, List.set_cons_zero, List.set_cons_succ, Nat.reduceAdd, Nat.reduceLT, Nat.reduceLeDiff, Nat.reduceEqDiff, Nat.zero_lt_succ, Value.category, true_and, or_true, true_or, and_true, false_implies, true_implies, not_false_eq_true, not_true_eq_false, List.map_cons, List.map_nil, List.sum_cons, List.sum_nil, va_up_eq, bx_uu, va_up_lit, List.length_cons, List.length_nil, List.drop_succ_cons, List.drop_zero, Option.toList_some, Option.toList_none, List.cons_append, List.nil_append]))
    exact hP _ _ (Or.inl ⟨rfl, rfl, Or.inr hno⟩)
  have hS := hC.2.2.2.2.2.1 s hs
  obtain ⟨e1, ⟨sk, rk, e2, hk1⟩, e3, hA, hJ, h8⟩ := id hS
  obtain ⟨x, y, z, ea, -, -, -, hI1⟩ := id hA
  have e1' := e1
  unfold sF at e1
  by_cases hc : (V s).1 8 = 0
  rotate_left
  · (repeat (refine zS_one rfl ?_; simp (disch := (first | decide | assumption | omega)) only [i_push, i_null, i_ild, i_ald, i_ist, i_ast, i_inc, i_bin, i_div, i_un, i_dup, i_pop, i_dup2, i_if, i_icmp, i_nul, i_nnl, i_goto, i_getf, i_putf, i_gets, i_nald, i_nast, i_aald, i_aast, i_alen, i_new, i_newa, i_newq, i_math, i_oini, i_iret, i_zret, i_aret, i_vret, z_fit, List.getElem?_cons_zero, List.getElem?_cons_succ, List.set_cons_zero, List.set_cons_succ, Nat.reduceAdd, Nat.reduceLT, Nat.reduceLeDiff, Nat.reduceEqDiff, Nat.zero_lt_succ, Value.category, true_and, or_true, true_or, and_true, false_implies, true_implies, not_false_eq_true, not_true_eq_false, List.map_cons, List.map_nil, List.sum_cons, List.sum_nil, va_up_eq, bx_uu, va_up_lit, List.length_cons, List.length_nil, List.drop_succ_cons, List.drop_zero, Option.toList_some, Option.toList_none, List.cons_append, List.nil_append, q10, e1, hc]))
    exact hP _ _ (Or.inr ⟨s, a, hs, rfl, ha, rfl, Or.inl ⟨rfl, rfl, hc⟩⟩)
  (repeat (refine zS_one rfl ?_; simp (disch := (first | decide | assumption | omega)) only [i_push, i_null, i_ild, i_ald, i_ist, i_ast, i_inc, i_bin, i_div, i_un, i_dup, i_pop, i_dup2, i_if, i_icmp, i_nul, i_nnl, i_goto, i_getf, i_putf, i_gets, i_nald, i_nast, i_aald, i_aast, i_alen, i_new, i_newa, i_newq, i_math, i_oini, i_iret, i_zret, i_aret, i_vret, z_fit, List.getElem?_cons_zero, List.getElem?_cons_succ, List.set_cons_zero, List.set_cons_succ, Nat.reduceAdd, Nat.reduceLT, Nat.reduceLeDiff, Nat.reduceEqDiff, Nat.zero_lt_succ, Value.category, true_and, or_true, true_or, and_true, false_implies, true_implies, not_false_eq_true, not_true_eq_false, List.map_cons, List.map_nil, List.sum_cons, List.sum_nil, va_up_eq, bx_uu, va_up_lit, List.length_cons, List.length_nil, List.drop_succ_cons, List.drop_zero, Option.toList_some, Option.toList_none, List.cons_append, List.nil_append, q10, e1, hc]))
  (try refine zS_one rfl ?_)
  refine r_callV (c_isDone sc (d + 6) ea) rfl rfl rfl rfl ea (Nat.le_refl _) (Nat.le_refl _) ?_
  rintro r h' ⟨rfl, ⟨rfl, hd⟩ | ⟨rfl, hd⟩⟩
  · obtain ⟨s1, hrk⟩ := hk1 hd
    (repeat (refine zS_one rfl ?_; simp (disch := (first | decide | assumption | omega)) only [i_push, i_null, i_ild, i_ald, i_ist, i_ast, i_inc, i_bin, i_div, i_un, i_dup, i_pop, i_dup2, i_if, i_icmp, i_nul, i_nnl, i_goto, i_getf, i_putf, i_gets, i_nald, i_nast, i_aald, i_aast, i_alen, i_new, i_newa, i_newq, i_math, i_oini, i_iret, i_zret, i_aret, i_vret, z_fit, List.getElem?_cons_zero, List.getElem?_cons_succ, List.set_cons_zero, List.set_cons_succ, Nat.reduceAdd, Nat.reduceLT, Nat.reduceLeDiff, Nat.reduceEqDiff, Nat.zero_lt_succ, Value.category, true_and, or_true, true_or, and_true, false_implies, true_implies, not_false_eq_true, not_true_eq_false, List.map_cons, List.map_nil, List.sum_cons, List.sum_nil, va_up_eq, bx_uu, va_up_lit, List.length_cons, List.length_nil, List.drop_succ_cons, List.drop_zero, Option.toList_some, Option.toList_none, List.cons_append, List.nil_append, q10, e0, e1]))
    (try refine zS_one rfl ?_)
    refine r_callV (c_acceptNext sc (d + 3) (c := 44 + 5 * s + 1) (I := (V s).1) (Θ := (V s).2.1) (K := (V s).2.2) (by omega) hT hM (by omega) ha e2 hrk e3) rfl rfl rfl rfl e2 (Nat.le_refl _) (Nat.le_refl _) ?_
    rintro r h1 (⟨v, Z, u, n', den', hacc, rfl, u1, u2, u3, hx, hT1, hM1, g1, g2, g3⟩ | ⟨rfl, hacc, n', den', hx, hT1, hM1, hf⟩)
    · have hk' : keyed n' den' (V s).1 (V s).2.1 sk rk := (show keyed n den (V s).1 (V s).2.1 sk rk from ⟨s1, hrk⟩).ext hx.1
      have hS1 : sOK h1 (44 + 5 * s) n' den' (topI (V s).1 v) (V s).2.1 (upd (V s).2.2 v.toNatClampNeg 1) := by
        refine sOK_ch hA hJ h8 hx.1 (fun q hq => va_up_lit _ _ _ _ (by omega)) hk' ?_ g1 g2 (g3.1 _ (by omega) (by omega) (by omega)) (g3.1 _ (by omega) (by omega) (by omega))
        rw [g3.1 _ (by omega) (by omega) (by omega), e1']
        unfold sF topI
        rw [va_up_lit _ _ _ _ (by omega), va_up_lit _ _ _ _ (by omega), va_up_lit _ _ _ _ (by omega), va_up_lit _ _ _ _ (by omega)]
      have hC1 := hC.step (v := (topI (V s).1 v, (V s).2.1, upd (V s).2.2 v.toNatClampNeg 1)) hs hx.1 hT1 hM1 hS1 g3.S
      have e0' := hC1.1
      obtain ⟨-, τ0, τ1, -, -, -, -, -, -, -, -, -, hZ⟩ := id hacc
      have w : ¬ nI u = 0 := by
        intro z
        have hn3 : n' ≤ n + 1 := hx.1.2.1
        have := nI_inj (a := u) (b := 0) (by omega) (by omega) z
        omega
      (repeat (refine zS_one rfl ?_; simp (disch := (first | decide | assumption | omega)) only [i_push, i_null, i_ild, i_ald, i_ist, i_ast, i_inc, i_bin, i_div, i_un, i_dup, i_pop, i_dup2, i_if, i_icmp, i_nul, i_nnl, i_goto, i_getf, i_putf, i_gets, i_nald, i_nast, i_aald, i_aast, i_alen, i_new, i_newa, i_newq, i_math, i_oini, i_iret, i_zret, i_aret, i_vret, z_fit, List.getElem?_cons_zero, List.getElem?_cons_succ, List.set_cons_zero, List.set_cons_succ, Nat.reduceAdd, Nat.reduceLT, Nat.reduceLeDiff, Nat.reduceEqDiff, Nat.zero_lt_succ, Value.category, true_and, or_true, true_or, and_true, false_implies, true_implies, not_false_eq_true, not_true_eq_false, List.map_cons, List.map_nil, List.sum_cons, List.sum_nil, va_up_eq, bx_uu, va_up_lit, List.length_cons, List.length_nil, List.drop_succ_cons, List.drop_zero, Option.toList_some, Option.toList_none, List.cons_append, List.nil_append, e0', w]))
      (try refine zS_one rfl ?_)
      refine r_callV (c_valueOf sc (d + 6) hT1 u1 u2 (Or.inl (by rw [u3]; exact hZ))) rfl rfl rfl rfl hT1.o (Nat.le_refl _) (Nat.le_refl _) ?_
      rintro r h' ⟨rfl, rfl⟩
      rw [u3]
      (repeat (refine zS_one rfl ?_; simp (disch := (first | decide | assumption | omega)) only [i_push, i_null, i_ild, i_ald, i_ist, i_ast, i_inc, i_bin, i_div, i_un, i_dup, i_pop, i_dup2, i_if, i_icmp, i_nul, i_nnl, i_goto, i_getf, i_putf, i_gets, i_nald, i_nast, i_aald, i_aast, i_alen, i_new, i_newa, i_newq, i_math, i_oini, i_iret, i_zret, i_aret, i_vret, z_fit, List.getElem?_cons_zero, List.getElem?_cons_succ, List.set_cons_zero, List.set_cons_succ, Nat.reduceAdd, Nat.reduceLT, Nat.reduceLeDiff, Nat.reduceEqDiff, Nat.zero_lt_succ, Value.category, true_and, or_true, true_or, and_true, false_implies, true_implies, not_false_eq_true, not_true_eq_false, List.map_cons, List.map_nil, List.sum_cons, List.sum_nil, va_up_eq, bx_uu, va_up_lit, List.length_cons, List.length_nil, List.drop_succ_cons, List.drop_zero, Option.toList_some, Option.toList_none, List.cons_append, List.nil_append]))
      (try refine zS_one rfl ?_)
      refine r_callV (c_notePayload sc (d + 6) hS1.1 (tv Z)) rfl rfl rfl rfl hS1.1 (Nat.le_refl _) (Nat.le_refl _) ?_
      rintro r h2 ⟨rfl, h2e⟩
      have hS2 := sOK_note hS1 (tv Z) h2e
      have hq : ∀ q, q ≠ 44 + 5 * s → h2.1 q = h'.1 q := fun q hq => by rw [h2e]; exact va_up_lit _ _ _ _ hq
      have hf2 : frS (44 + 5 * s) h' h2 := ⟨fun q _ hq' => hq q (by omega), by rw [h2e]⟩
      have hC2 := hC.step (v := (noteI (topI (V s).1 v) (tv Z), (V s).2.1, upd (V s).2.2 v.toNatClampNeg 1)) hs hx.1 (hT1.same (fun q hq' => hq q (by omega))) (hM1.same (fun q hq' => hq q (by omega))) hS2 (g3.S.tr hf2)
      (repeat (refine zS_one rfl ?_; simp (disch := (first | decide | assumption | omega)) only [i_push, i_null, i_ild, i_ald, i_ist, i_ast, i_inc, i_bin, i_div, i_un, i_dup, i_pop, i_dup2, i_if, i_icmp, i_nul, i_nnl, i_goto, i_getf, i_putf, i_gets, i_nald, i_nast, i_aald, i_aast, i_alen, i_new, i_newa, i_newq, i_math, i_oini, i_iret, i_zret, i_aret, i_vret, z_fit, List.getElem?_cons_zero, List.getElem?_cons_succ, List.set_cons_zero, List.set_cons_succ, Nat.reduceAdd, Nat.reduceLT, Nat.reduceLeDiff, Nat.reduceEqDiff, Nat.zero_lt_succ, Value.category, true_and, or_true, true_or, and_true, false_implies, true_implies, not_false_eq_true, not_true_eq_false, List.map_cons, List.map_nil, List.sum_cons, List.sum_nil, va_up_eq, bx_uu, va_up_lit, List.length_cons, List.length_nil, List.drop_succ_cons, List.drop_zero, Option.toList_some, Option.toList_none, List.cons_append, List.nil_append]))
      exact hP _ _ (Or.inr ⟨s, a, hs, rfl, ha, rfl, Or.inr (Or.inl ⟨hc, hd, (g3.S.tr hf2).M (by omega), Or.inl ⟨v, Z, n', den', hacc, rfl, hx, hC2⟩⟩)⟩)
    · have hC1 := hC.tm hx.1 hT1 hM1 (hf.up (by decide) (by decide))
      (repeat (refine zS_one rfl ?_; simp (disch := (first | decide | assumption | omega)) only [i_push, i_null, i_ild, i_ald, i_ist, i_ast, i_inc, i_bin, i_div, i_un, i_dup, i_pop, i_dup2, i_if, i_icmp, i_nul, i_nnl, i_goto, i_getf, i_putf, i_gets, i_nald, i_nast, i_aald, i_aast, i_alen, i_new, i_newa, i_newq, i_math, i_oini, i_iret, i_zret, i_aret, i_vret, z_fit, List.getElem?_cons_zero, List.getElem?_cons_succ, List.set_cons_zero, List.set_cons_succ, Nat.reduceAdd, Nat.reduceLT, Nat.reduceLeDiff, Nat.reduceEqDiff, Nat.zero_lt_succ, Value.category, true_and, or_true, true_or, and_true, false_implies, true_implies, not_false_eq_true, not_true_eq_false, List.map_cons, List.map_nil, List.sum_cons, List.sum_nil, va_up_eq, bx_uu, va_up_lit, List.length_cons, List.length_nil, List.drop_succ_cons, List.drop_zero, Option.toList_some, Option.toList_none, List.cons_append, List.nil_append]))
      exact hP _ _ (Or.inr ⟨s, a, hs, rfl, ha, rfl, Or.inr (Or.inl ⟨hc, hd, hf.M (by decide), Or.inr ⟨rfl, hacc, n', den', hx, hC1⟩⟩)⟩)
  · obtain ⟨p, st, p0, p7, pr, ps3, hrow⟩ := row_of hI1 hd
    (repeat (refine zS_one rfl ?_; simp (disch := (first | decide | assumption | omega)) only [i_push, i_null, i_ild, i_ald, i_ist, i_ast, i_inc, i_bin, i_div, i_un, i_dup, i_pop, i_dup2, i_if, i_icmp, i_nul, i_nnl, i_goto, i_getf, i_putf, i_gets, i_nald, i_nast, i_aald, i_aast, i_alen, i_new, i_newa, i_newq, i_math, i_oini, i_iret, i_zret, i_aret, i_vret, z_fit, List.getElem?_cons_zero, List.getElem?_cons_succ, List.set_cons_zero, List.set_cons_succ, Nat.reduceAdd, Nat.reduceLT, Nat.reduceLeDiff, Nat.reduceEqDiff, Nat.zero_lt_succ, Value.category, true_and, or_true, true_or, and_true, false_implies, true_implies, not_false_eq_true, not_true_eq_false, List.map_cons, List.map_nil, List.sum_cons, List.sum_nil, va_up_eq, bx_uu, va_up_lit, List.length_cons, List.length_nil, List.drop_succ_cons, List.drop_zero, Option.toList_some, Option.toList_none, List.cons_append, List.nil_append, e0, e1]))
    (try refine zS_one rfl ?_)
    refine r_callV (c_SreadNext sc d (b := 44 + 5 * s) (I := (V s).1) (Θ := (V s).2.1) (K := (V s).2.2) (by omega) hT hM hS ha p0 p7 pr ps3 hn) rfl rfl rfl rfl e1' (Nat.le_refl _) (Nat.le_refl _) ?_
    rw [← hrow]
    rintro r h1 (⟨I', Θ', Z, u, n', den', hmy, hrf, hZ, rfl, u1, u2, u3, hx, hT1, hM1, hS1, hf1⟩ | ⟨rfl, hno, hT1, hM1, hS1, hf1⟩)
    · have hC1 := hC.step (v := (endI I', Θ', (V s).2.2)) hs hx hT1 hM1 hS1 hf1
      have e0' := hC1.1
      have w : ¬ nI u = 0 := by
        intro z
        obtain ⟨T, -, hI, -⟩ := id hT1
        have hn3 : n' < 720 := hI.1
        have := nI_inj (a := u) (b := 0) (by omega) (by omega) z
        omega
      (repeat (refine zS_one rfl ?_; simp (disch := (first | decide | assumption | omega)) only [i_push, i_null, i_ild, i_ald, i_ist, i_ast, i_inc, i_bin, i_div, i_un, i_dup, i_pop, i_dup2, i_if, i_icmp, i_nul, i_nnl, i_goto, i_getf, i_putf, i_gets, i_nald, i_nast, i_aald, i_aast, i_alen, i_new, i_newa, i_newq, i_math, i_oini, i_iret, i_zret, i_aret, i_vret, z_fit, List.getElem?_cons_zero, List.getElem?_cons_succ, List.set_cons_zero, List.set_cons_succ, Nat.reduceAdd, Nat.reduceLT, Nat.reduceLeDiff, Nat.reduceEqDiff, Nat.zero_lt_succ, Value.category, true_and, or_true, true_or, and_true, false_implies, true_implies, not_false_eq_true, not_true_eq_false, List.map_cons, List.map_nil, List.sum_cons, List.sum_nil, va_up_eq, bx_uu, va_up_lit, List.length_cons, List.length_nil, List.drop_succ_cons, List.drop_zero, Option.toList_some, Option.toList_none, List.cons_append, List.nil_append, e0', w]))
      (try refine zS_one rfl ?_)
      refine r_callV (c_valueOf sc (d + 6) hT1 u1 u2 (Or.inl (by rw [u3]; exact hZ))) rfl rfl rfl rfl hT1.o (Nat.le_refl _) (Nat.le_refl _) ?_
      rintro r h' ⟨rfl, rfl⟩
      rw [u3]
      (repeat (refine zS_one rfl ?_; simp (disch := (first | decide | assumption | omega)) only [i_push, i_null, i_ild, i_ald, i_ist, i_ast, i_inc, i_bin, i_div, i_un, i_dup, i_pop, i_dup2, i_if, i_icmp, i_nul, i_nnl, i_goto, i_getf, i_putf, i_gets, i_nald, i_nast, i_aald, i_aast, i_alen, i_new, i_newa, i_newq, i_math, i_oini, i_iret, i_zret, i_aret, i_vret, z_fit, List.getElem?_cons_zero, List.getElem?_cons_succ, List.set_cons_zero, List.set_cons_succ, Nat.reduceAdd, Nat.reduceLT, Nat.reduceLeDiff, Nat.reduceEqDiff, Nat.zero_lt_succ, Value.category, true_and, or_true, true_or, and_true, false_implies, true_implies, not_false_eq_true, not_true_eq_false, List.map_cons, List.map_nil, List.sum_cons, List.sum_nil, va_up_eq, bx_uu, va_up_lit, List.length_cons, List.length_nil, List.drop_succ_cons, List.drop_zero, Option.toList_some, Option.toList_none, List.cons_append, List.nil_append]))
      (try refine zS_one rfl ?_)
      refine r_callV (c_notePayload sc (d + 6) hS1.1 (tv Z)) rfl rfl rfl rfl hS1.1 (Nat.le_refl _) (Nat.le_refl _) ?_
      rintro r h2 ⟨rfl, h2e⟩
      have hS2 := sOK_note hS1 (tv Z) h2e
      have hq : ∀ q, q ≠ 44 + 5 * s → h2.1 q = h'.1 q := fun q hq => by rw [h2e]; exact va_up_lit _ _ _ _ hq
      have hf2 : frS (44 + 5 * s) h' h2 := ⟨fun q _ hq' => hq q (by omega), by rw [h2e]⟩
      have hC2 := hC.step (v := (noteI (endI I') (tv Z), Θ', (V s).2.2)) hs hx (hT1.same (fun q hq' => hq q (by omega))) (hM1.same (fun q hq' => hq q (by omega))) hS2 (hf1.tr hf2)
      (repeat (refine zS_one rfl ?_; simp (disch := (first | decide | assumption | omega)) only [i_push, i_null, i_ild, i_ald, i_ist, i_ast, i_inc, i_bin, i_div, i_un, i_dup, i_pop, i_dup2, i_if, i_icmp, i_nul, i_nnl, i_goto, i_getf, i_putf, i_gets, i_nald, i_nast, i_aald, i_aast, i_alen, i_new, i_newa, i_newq, i_math, i_oini, i_iret, i_zret, i_aret, i_vret, z_fit, List.getElem?_cons_zero, List.getElem?_cons_succ, List.set_cons_zero, List.set_cons_succ, Nat.reduceAdd, Nat.reduceLT, Nat.reduceLeDiff, Nat.reduceEqDiff, Nat.zero_lt_succ, Value.category, true_and, or_true, true_or, and_true, false_implies, true_implies, not_false_eq_true, not_true_eq_false, List.map_cons, List.map_nil, List.sum_cons, List.sum_nil, va_up_eq, bx_uu, va_up_lit, List.length_cons, List.length_nil, List.drop_succ_cons, List.drop_zero, Option.toList_some, Option.toList_none, List.cons_append, List.nil_append]))
      exact hP _ _ (Or.inr ⟨s, a, hs, rfl, ha, rfl, Or.inr (Or.inr ⟨hc, hd, (hf1.tr hf2).M (by omega), Or.inl ⟨I', Θ', Z, n', den', hmy, hrf, hZ, rfl, hx, hC2⟩⟩)⟩)
    · have hC1 := hC.step (c := 0) (v := V s) hs exq.rf hT1 hM1 hS1 hf1
      rw [va_up_id] at hC1
      (repeat (refine zS_one rfl ?_; simp (disch := (first | decide | assumption | omega)) only [i_push, i_null, i_ild, i_ald, i_ist, i_ast, i_inc, i_bin, i_div, i_un, i_dup, i_pop, i_dup2, i_if, i_icmp, i_nul, i_nnl, i_goto, i_getf, i_putf, i_gets, i_nald, i_nast, i_aald, i_aast, i_alen, i_new, i_newa, i_newq, i_math, i_oini, i_iret, i_zret, i_aret, i_vret, z_fit, List.getElem?_cons_zero, List.getElem?_cons_succ, List.set_cons_zero, List.set_cons_succ, Nat.reduceAdd, Nat.reduceLT, Nat.reduceLeDiff, Nat.reduceEqDiff, Nat.zero_lt_succ, Value.category, true_and, or_true, true_or, and_true, false_implies, true_implies, not_false_eq_true, not_true_eq_false, List.map_cons, List.map_nil, List.sum_cons, List.sum_nil, va_up_eq, bx_uu, va_up_lit, List.length_cons, List.length_nil, List.drop_succ_cons, List.drop_zero, Option.toList_some, Option.toList_none, List.cons_append, List.nil_append]))
      exact hP _ _ (Or.inr ⟨s, a, hs, rfl, ha, rfl, Or.inr (Or.inr ⟨hc, hd, hf1.M (by omega), Or.inr ⟨rfl, hno, hC1⟩⟩)⟩)
def inP (m : Nat) (ps : Nat → List zT) (i j : Int32) (a b : Nat) : Prop := a < m ∧ i = nI a ∧ j = nI b ∧ b < (ps a).length
/-- what splice and replace leave -/
def chQ (h0 : zH) (ns n k c : Nat) (den : Nat → zT) (G : Nat → Int32) (m : Nat) (ps : Nat → List zT) (V : Nat → zV) (i j : Int32) (τ : zT) : zP := fun r h' =>
  ∃ a b, inP m ps i j a b ∧ ((r = some (.int (-4)) ∧ h' = h0 ∧ m = 60) ∨ (r = some (.int (nI m)) ∧ m < 60 ∧ frM h0 h' ∧ ∃ n' den', exq n den n' den' c ∧ cOK h' ns n' k den' G (m + 1) (va_up ps m ((ps a).set b τ)) V))
set_option maxHeartbeats 4000000 in
theorem c_Stsplice (sc : Nat × (Nat → Int32)) (d : Nat) (hC : cOK h0 ns n k den G m ps V) (hps : ps m = []) (i j i' j' : Int32) : zMt zTab sc (d + 5) 61 [.ref 0, .int i, .int j, .int i', .int j'] h0 0 0 (fun r h' => (r = some (.int (-1)) ∧ h' = h0 ∧ ((∀ a b, ¬ inP m ps i j a b) ∨ ∀ a b, ¬ inP m ps i' j' a b)) ∨ ∃ a b τ, inP m ps i' j' a b ∧ (ps a)[b]? = some τ ∧ chQ h0 ns n k 0 den G m ps V i j τ r h') := by
  have hT := hC.2.2.2.1
  have hM := hC.2.2.2.2.1
  have e0 := hC.1
  have q10 : ¬ (1 : Int32) = 0 := by decide
  have hn7 : n < 720 := by obtain ⟨T, -, hI, -⟩ := id hT; exact hI.1
  refine zM_gen fun P hP => ?_
  refine zM_start (r := r_St_splice) (cd := k_St_splice) (L0 := [some (.ref 0), some (.int i), some (.int j), some (.int i'), some (.int j'), none]) rfl rfl rfl rfl rfl ?_
  (repeat (refine zS_one rfl ?_; simp (disch := (first | decide | assumption | omega)) only [i_push, i_null, i_ild, i_ald, i_ist, i_ast, i_inc, i_bin, i_div, i_un, i_dup, i_pop, i_dup2, i_if, i_icmp, i_nul, i_nnl, i_goto, i_getf, i_putf, i_gets, i_nald, i_nast, i_aald, i_aast, i_alen, i_new, i_newa, i_newq, i_math, i_oini, i_iret, i_zret, i_aret, i_vret, z_fit, List.getElem?_cons_zero, List.getElem?_cons_succ, List.set_cons_zero, List.set_cons_succ, Nat.reduceAdd, Nat.reduceLT, Nat.reduceLeDiff, Nat.reduceEqDiff, Nat.zero_lt_succ, Value.category, true_and, or_true, true_or, and_true, false_implies, true_implies, not_false_eq_true, not_true_eq_false, List.map_cons, List.map_nil, List.sum_cons, List.sum_nil, va_up_eq, bx_uu, va_up_lit, List.length_cons, List.length_nil, List.drop_succ_cons, List.drop_zero, Option.toList_some, Option.toList_none, List.cons_append, List.nil_append, e0]))
  (try refine zS_one rfl ?_)
  refine r_callV (c_partAt sc (d + 1) hM i' j') rfl rfl rfl rfl hM.o (Nat.le_refl _) (Nat.le_refl _) ?_
  rintro r h' ⟨rfl, ⟨a, b, t, ha, rfl, rfl, hb, t1, t2, rfl⟩ | ⟨rfl, hno⟩⟩
  rotate_left
  · (repeat (refine zS_one rfl ?_; simp (disch := (first | decide | assumption | omega)) only [i_push, i_null, i_ild, i_ald, i_ist, i_ast, i_inc, i_bin, i_div, i_un, i_dup, i_pop, i_dup2, i_if, i_icmp, i_nul, i_nnl, i_goto, i_getf, i_putf, i_gets, i_nald, i_nast, i_aald, i_aast, i_alen, i_new, i_newa, i_newq, i_math, i_oini, i_iret, i_zret, i_aret, i_vret, z_fit, List.getElem?_cons_zero, List.getElem?_cons_succ, List.set_cons_zero, List.set_cons_succ, Nat.reduceAdd, Nat.reduceLT, Nat.reduceLeDiff, Nat.reduceEqDiff, Nat.zero_lt_succ, Value.category, true_and, or_true, true_or, and_true, false_implies, true_implies, not_false_eq_true, not_true_eq_false, List.map_cons, List.map_nil, List.sum_cons, List.sum_nil, va_up_eq, bx_uu, va_up_lit, List.length_cons, List.length_nil, List.drop_succ_cons, List.drop_zero, Option.toList_some, Option.toList_none, List.cons_append, List.nil_append]))
    exact hP _ _ (Or.inl ⟨rfl, rfl, Or.inr (fun a b z => hno a b z.1 z.2.1 z.2.2.2 z.2.2.1)⟩)
  have w : ¬ nI t = 0 := by
    intro z
    have := nI_inj (a := t) (b := 0) (by omega) (by omega) z
    omega
  have hb' : b < (ps a).length := (List.getElem?_eq_some_iff.mp hb).1
  (repeat (refine zS_one rfl ?_; simp (disch := (first | decide | assumption | omega)) only [i_push, i_null, i_ild, i_ald, i_ist, i_ast, i_inc, i_bin, i_div, i_un, i_dup, i_pop, i_dup2, i_if, i_icmp, i_nul, i_nnl, i_goto, i_getf, i_putf, i_gets, i_nald, i_nast, i_aald, i_aast, i_alen, i_new, i_newa, i_newq, i_math, i_oini, i_iret, i_zret, i_aret, i_vret, z_fit, List.getElem?_cons_zero, List.getElem?_cons_succ, List.set_cons_zero, List.set_cons_succ, Nat.reduceAdd, Nat.reduceLT, Nat.reduceLeDiff, Nat.reduceEqDiff, Nat.zero_lt_succ, Value.category, true_and, or_true, true_or, and_true, false_implies, true_implies, not_false_eq_true, not_true_eq_false, List.map_cons, List.map_nil, List.sum_cons, List.sum_nil, va_up_eq, bx_uu, va_up_lit, List.length_cons, List.length_nil, List.drop_succ_cons, List.drop_zero, Option.toList_some, Option.toList_none, List.cons_append, List.nil_append, e0, w]))
  (try refine zS_one rfl ?_)
  refine r_callV (c_partAt sc (d + 1) hM i j) rfl rfl rfl rfl hM.o (Nat.le_refl _) (Nat.le_refl _) ?_
  rintro r h' ⟨rfl, ⟨a2, b2, u, ha2, rfl, rfl, hb2, u1, u2, rfl⟩ | ⟨rfl, hno⟩⟩
  rotate_left
  · (repeat (refine zS_one rfl ?_; simp (disch := (first | decide | assumption | omega)) only [i_push, i_null, i_ild, i_ald, i_ist, i_ast, i_inc, i_bin, i_div, i_un, i_dup, i_pop, i_dup2, i_if, i_icmp, i_nul, i_nnl, i_goto, i_getf, i_putf, i_gets, i_nald, i_nast, i_aald, i_aast, i_alen, i_new, i_newa, i_newq, i_math, i_oini, i_iret, i_zret, i_aret, i_vret, z_fit, List.getElem?_cons_zero, List.getElem?_cons_succ, List.set_cons_zero, List.set_cons_succ, Nat.reduceAdd, Nat.reduceLT, Nat.reduceLeDiff, Nat.reduceEqDiff, Nat.zero_lt_succ, Value.category, true_and, or_true, true_or, and_true, false_implies, true_implies, not_false_eq_true, not_true_eq_false, List.map_cons, List.map_nil, List.sum_cons, List.sum_nil, va_up_eq, bx_uu, va_up_lit, List.length_cons, List.length_nil, List.drop_succ_cons, List.drop_zero, Option.toList_some, Option.toList_none, List.cons_append, List.nil_append]))
    exact hP _ _ (Or.inl ⟨rfl, rfl, Or.inl (fun a b z => hno a b z.1 z.2.1 z.2.2.2 z.2.2.1)⟩)
  have w2 : ¬ nI u = 0 := by
    intro z
    have := nI_inj (a := u) (b := 0) (by omega) (by omega) z
    omega
  have hb2' : b2 < (ps a2).length := (List.getElem?_eq_some_iff.mp hb2).1
  (repeat (refine zS_one rfl ?_; simp (disch := (first | decide | assumption | omega)) only [i_push, i_null, i_ild, i_ald, i_ist, i_ast, i_inc, i_bin, i_div, i_un, i_dup, i_pop, i_dup2, i_if, i_icmp, i_nul, i_nnl, i_goto, i_getf, i_putf, i_gets, i_nald, i_nast, i_aald, i_aast, i_alen, i_new, i_newa, i_newq, i_math, i_oini, i_iret, i_zret, i_aret, i_vret, z_fit, List.getElem?_cons_zero, List.getElem?_cons_succ, List.set_cons_zero, List.set_cons_succ, Nat.reduceAdd, Nat.reduceLT, Nat.reduceLeDiff, Nat.reduceEqDiff, Nat.zero_lt_succ, Value.category, true_and, or_true, true_or, and_true, false_implies, true_implies, not_false_eq_true, not_true_eq_false, List.map_cons, List.map_nil, List.sum_cons, List.sum_nil, va_up_eq, bx_uu, va_up_lit, List.length_cons, List.length_nil, List.drop_succ_cons, List.drop_zero, Option.toList_some, Option.toList_none, List.cons_append, List.nil_append, e0, w2]))
  (try refine zS_one rfl ?_)
  refine r_callV (c_isFull sc (d + 3) hM) rfl rfl rfl rfl hM.o (Nat.le_refl _) (Nat.le_refl _) ?_
  rintro r h' ⟨rfl, ⟨rfl, hm⟩ | ⟨rfl, hm⟩⟩
  · (repeat (refine zS_one rfl ?_; simp (disch := (first | decide | assumption | omega)) only [i_push, i_null, i_ild, i_ald, i_ist, i_ast, i_inc, i_bin, i_div, i_un, i_dup, i_pop, i_dup2, i_if, i_icmp, i_nul, i_nnl, i_goto, i_getf, i_putf, i_gets, i_nald, i_nast, i_aald, i_aast, i_alen, i_new, i_newa, i_newq, i_math, i_oini, i_iret, i_zret, i_aret, i_vret, z_fit, List.getElem?_cons_zero, List.getElem?_cons_succ, List.set_cons_zero, List.set_cons_succ, Nat.reduceAdd, Nat.reduceLT, Nat.reduceLeDiff, Nat.reduceEqDiff, Nat.zero_lt_succ, Value.category, true_and, or_true, true_or, and_true, false_implies, true_implies, not_false_eq_true, not_true_eq_false, List.map_cons, List.map_nil, List.sum_cons, List.sum_nil, va_up_eq, bx_uu, va_up_lit, List.length_cons, List.length_nil, List.drop_succ_cons, List.drop_zero, Option.toList_some, Option.toList_none, List.cons_append, List.nil_append, q10]))
    exact hP _ _ (Or.inr ⟨a, b, _, ⟨ha, rfl, rfl, hb'⟩, hb, a2, b2, ⟨ha2, rfl, rfl, hb2'⟩, Or.inl ⟨rfl, rfl, hm⟩⟩)
  (repeat (refine zS_one rfl ?_; simp (disch := (first | decide | assumption | omega)) only [i_push, i_null, i_ild, i_ald, i_ist, i_ast, i_inc, i_bin, i_div, i_un, i_dup, i_pop, i_dup2, i_if, i_icmp, i_nul, i_nnl, i_goto, i_getf, i_putf, i_gets, i_nald, i_nast, i_aald, i_aast, i_alen, i_new, i_newa, i_newq, i_math, i_oini, i_iret, i_zret, i_aret, i_vret, z_fit, List.getElem?_cons_zero, List.getElem?_cons_succ, List.set_cons_zero, List.set_cons_succ, Nat.reduceAdd, Nat.reduceLT, Nat.reduceLeDiff, Nat.reduceEqDiff, Nat.zero_lt_succ, Value.category, true_and, or_true, true_or, and_true, false_implies, true_implies, not_false_eq_true, not_true_eq_false, List.map_cons, List.map_nil, List.sum_cons, List.sum_nil, va_up_eq, bx_uu, va_up_lit, List.length_cons, List.length_nil, List.drop_succ_cons, List.drop_zero, Option.toList_some, Option.toList_none, List.cons_append, List.nil_append]))
  (try refine zS_one rfl ?_)
  refine r_callV (c_makeChanged sc d hC hm hps ha2 hb2' t1 t2) rfl rfl rfl rfl hC.1 (Nat.le_refl _) (Nat.le_refl _) ?_
  rintro r h1 ⟨rfl, hC1, hf1⟩
  (repeat (refine zS_one rfl ?_; simp (disch := (first | decide | assumption | omega)) only [i_push, i_null, i_ild, i_ald, i_ist, i_ast, i_inc, i_bin, i_div, i_un, i_dup, i_pop, i_dup2, i_if, i_icmp, i_nul, i_nnl, i_goto, i_getf, i_putf, i_gets, i_nald, i_nast, i_aald, i_aast, i_alen, i_new, i_newa, i_newq, i_math, i_oini, i_iret, i_zret, i_aret, i_vret, z_fit, List.getElem?_cons_zero, List.getElem?_cons_succ, List.set_cons_zero, List.set_cons_succ, Nat.reduceAdd, Nat.reduceLT, Nat.reduceLeDiff, Nat.reduceEqDiff, Nat.zero_lt_succ, Value.category, true_and, or_true, true_or, and_true, false_implies, true_implies, not_false_eq_true, not_true_eq_false, List.map_cons, List.map_nil, List.sum_cons, List.sum_nil, va_up_eq, bx_uu, va_up_lit, List.length_cons, List.length_nil, List.drop_succ_cons, List.drop_zero, Option.toList_some, Option.toList_none, List.cons_append, List.nil_append]))
  exact hP _ _ (Or.inr ⟨a, b, _, ⟨ha, rfl, rfl, hb'⟩, hb, a2, b2, ⟨ha2, rfl, rfl, hb2'⟩, Or.inr ⟨rfl, hm, hf1, n, den, exq.rf, hC1⟩⟩)
set_option maxHeartbeats 4000000 in
theorem c_Streplace (sc : Nat × (Nat → Int32)) (d : Nat) (hC : cOK h0 ns n k den G m ps V) (hps : ps m = []) (hn : n < 719) (i j v : Int32) : zMt zTab sc (d + 5) 62 [.ref 0, .int i, .int j, .int v] h0 0 0 (fun r h' => (r = some (.int (-1)) ∧ h' = h0 ∧ (∀ a b, ¬ inP m ps i j a b)) ∨ chQ h0 ns n k 1 den G m ps V i j (tN v) r h') := by
  have hT := hC.2.2.2.1
  have hM := hC.2.2.2.2.1
  have e0 := hC.1
  have q10 : ¬ (1 : Int32) = 0 := by decide
  refine zM_gen fun P hP => ?_
  refine zM_start (r := r_St_replace) (cd := k_St_replace) (L0 := [some (.ref 0), some (.int i), some (.int j), some (.int v)]) rfl rfl rfl rfl rfl ?_
  (repeat (refine zS_one rfl ?_; simp (disch := (first | decide | assumption | omega)) only [i_push, i_null, i_ild, i_ald, i_ist, i_ast, i_inc, i_bin, i_div, i_un, i_dup, i_pop, i_dup2, i_if, i_icmp, i_nul, i_nnl, i_goto, i_getf, i_putf, i_gets, i_nald, i_nast, i_aald, i_aast, i_alen, i_new, i_newa, i_newq, i_math, i_oini, i_iret, i_zret, i_aret, i_vret, z_fit, List.getElem?_cons_zero, List.getElem?_cons_succ, List.set_cons_zero, List.set_cons_succ, Nat.reduceAdd, Nat.reduceLT, Nat.reduceLeDiff, Nat.reduceEqDiff, Nat.zero_lt_succ, Value.category, true_and, or_true, true_or, and_true, false_implies, true_implies, not_false_eq_true, not_true_eq_false, List.map_cons, List.map_nil, List.sum_cons, List.sum_nil, va_up_eq, bx_uu, va_up_lit, List.length_cons, List.length_nil, List.drop_succ_cons, List.drop_zero, Option.toList_some, Option.toList_none, List.cons_append, List.nil_append, e0]))
  (try refine zS_one rfl ?_)
  refine r_callV (c_partAt sc (d + 1) hM i j) rfl rfl rfl rfl hM.o (Nat.le_refl _) (Nat.le_refl _) ?_
  rintro r h' ⟨rfl, ⟨a, b, t, ha, rfl, rfl, hb, t1, t2, rfl⟩ | ⟨rfl, hno⟩⟩
  rotate_left
  · (repeat (refine zS_one rfl ?_; simp (disch := (first | decide | assumption | omega)) only [i_push, i_null, i_ild, i_ald, i_ist, i_ast, i_inc, i_bin, i_div, i_un, i_dup, i_pop, i_dup2, i_if, i_icmp, i_nul, i_nnl, i_goto, i_getf, i_putf, i_gets, i_nald, i_nast, i_aald, i_aast, i_alen, i_new, i_newa, i_newq, i_math, i_oini, i_iret, i_zret, i_aret, i_vret, z_fit, List.getElem?_cons_zero, List.getElem?_cons_succ, List.set_cons_zero, List.set_cons_succ, Nat.reduceAdd, Nat.reduceLT, Nat.reduceLeDiff, Nat.reduceEqDiff, Nat.zero_lt_succ, Value.category, true_and, or_true, true_or, and_true, false_implies, true_implies, not_false_eq_true, not_true_eq_false, List.map_cons, List.map_nil, List.sum_cons, List.sum_nil, va_up_eq, bx_uu, va_up_lit, List.length_cons, List.length_nil, List.drop_succ_cons, List.drop_zero, Option.toList_some, Option.toList_none, List.cons_append, List.nil_append]))
    exact hP _ _ (Or.inl ⟨rfl, rfl, (fun a b z => hno a b z.1 z.2.1 z.2.2.2 z.2.2.1)⟩)
  have w : ¬ nI t = 0 := by
    intro z
    have := nI_inj (a := t) (b := 0) (by omega) (by omega) z
    omega
  have hb' : b < (ps a).length := (List.getElem?_eq_some_iff.mp hb).1
  (repeat (refine zS_one rfl ?_; simp (disch := (first | decide | assumption | omega)) only [i_push, i_null, i_ild, i_ald, i_ist, i_ast, i_inc, i_bin, i_div, i_un, i_dup, i_pop, i_dup2, i_if, i_icmp, i_nul, i_nnl, i_goto, i_getf, i_putf, i_gets, i_nald, i_nast, i_aald, i_aast, i_alen, i_new, i_newa, i_newq, i_math, i_oini, i_iret, i_zret, i_aret, i_vret, z_fit, List.getElem?_cons_zero, List.getElem?_cons_succ, List.set_cons_zero, List.set_cons_succ, Nat.reduceAdd, Nat.reduceLT, Nat.reduceLeDiff, Nat.reduceEqDiff, Nat.zero_lt_succ, Value.category, true_and, or_true, true_or, and_true, false_implies, true_implies, not_false_eq_true, not_true_eq_false, List.map_cons, List.map_nil, List.sum_cons, List.sum_nil, va_up_eq, bx_uu, va_up_lit, List.length_cons, List.length_nil, List.drop_succ_cons, List.drop_zero, Option.toList_some, Option.toList_none, List.cons_append, List.nil_append, e0, w]))
  (try refine zS_one rfl ?_)
  refine r_callV (c_isFull sc (d + 3) hM) rfl rfl rfl rfl hM.o (Nat.le_refl _) (Nat.le_refl _) ?_
  rintro r h' ⟨rfl, ⟨rfl, hm⟩ | ⟨rfl, hm⟩⟩
  · (repeat (refine zS_one rfl ?_; simp (disch := (first | decide | assumption | omega)) only [i_push, i_null, i_ild, i_ald, i_ist, i_ast, i_inc, i_bin, i_div, i_un, i_dup, i_pop, i_dup2, i_if, i_icmp, i_nul, i_nnl, i_goto, i_getf, i_putf, i_gets, i_nald, i_nast, i_aald, i_aast, i_alen, i_new, i_newa, i_newq, i_math, i_oini, i_iret, i_zret, i_aret, i_vret, z_fit, List.getElem?_cons_zero, List.getElem?_cons_succ, List.set_cons_zero, List.set_cons_succ, Nat.reduceAdd, Nat.reduceLT, Nat.reduceLeDiff, Nat.reduceEqDiff, Nat.zero_lt_succ, Value.category, true_and, or_true, true_or, and_true, false_implies, true_implies, not_false_eq_true, not_true_eq_false, List.map_cons, List.map_nil, List.sum_cons, List.sum_nil, va_up_eq, bx_uu, va_up_lit, List.length_cons, List.length_nil, List.drop_succ_cons, List.drop_zero, Option.toList_some, Option.toList_none, List.cons_append, List.nil_append, q10]))
    exact hP _ _ (Or.inr ⟨a, b, ⟨ha, rfl, rfl, hb'⟩, Or.inl ⟨rfl, rfl, hm⟩⟩)
  (repeat (refine zS_one rfl ?_; simp (disch := (first | decide | assumption | omega)) only [i_push, i_null, i_ild, i_ald, i_ist, i_ast, i_inc, i_bin, i_div, i_un, i_dup, i_pop, i_dup2, i_if, i_icmp, i_nul, i_nnl, i_goto, i_getf, i_putf, i_gets, i_nald, i_nast, i_aald, i_aast, i_alen, i_new, i_newa, i_newq, i_math, i_oini, i_iret, i_zret, i_aret, i_vret, z_fit, List.getElem?_cons_zero, List.getElem?_cons_succ, List.set_cons_zero, List.set_cons_succ, Nat.reduceAdd, Nat.reduceLT, Nat.reduceLeDiff, Nat.reduceEqDiff, Nat.zero_lt_succ, Value.category, true_and, or_true, true_or, and_true, false_implies, true_implies, not_false_eq_true, not_true_eq_false, List.map_cons, List.map_nil, List.sum_cons, List.sum_nil, va_up_eq, bx_uu, va_up_lit, List.length_cons, List.length_nil, List.drop_succ_cons, List.drop_zero, Option.toList_some, Option.toList_none, List.cons_append, List.nil_append, e0]))
  (try refine zS_one rfl ?_)
  refine r_callV (c_num sc (d + 1) hT hn v) rfl rfl rfl rfl hT.o (Nat.le_refl _) (Nat.le_refl _) ?_
  rintro r h1 ⟨u, n', den', rfl, u1, u2, u3, hT1, n1, n2, n3, hf⟩
  have hx : exq n den n' den' 1 := ⟨n1, n2, n3⟩
  have hM1 := hM.fr n1 n3 hf (Or.inl (by decide))
  have hC1 := hC.tm hx hT1 hM1 (hf.up (by decide) (by decide))
  (repeat (refine zS_one rfl ?_; simp (disch := (first | decide | assumption | omega)) only [i_push, i_null, i_ild, i_ald, i_ist, i_ast, i_inc, i_bin, i_div, i_un, i_dup, i_pop, i_dup2, i_if, i_icmp, i_nul, i_nnl, i_goto, i_getf, i_putf, i_gets, i_nald, i_nast, i_aald, i_aast, i_alen, i_new, i_newa, i_newq, i_math, i_oini, i_iret, i_zret, i_aret, i_vret, z_fit, List.getElem?_cons_zero, List.getElem?_cons_succ, List.set_cons_zero, List.set_cons_succ, Nat.reduceAdd, Nat.reduceLT, Nat.reduceLeDiff, Nat.reduceEqDiff, Nat.zero_lt_succ, Value.category, true_and, or_true, true_or, and_true, false_implies, true_implies, not_false_eq_true, not_true_eq_false, List.map_cons, List.map_nil, List.sum_cons, List.sum_nil, va_up_eq, bx_uu, va_up_lit, List.length_cons, List.length_nil, List.drop_succ_cons, List.drop_zero, Option.toList_some, Option.toList_none, List.cons_append, List.nil_append]))
  (try refine zS_one rfl ?_)
  refine r_callV (c_makeChanged sc d hC1 hm hps ha hb' u1 u2) rfl rfl rfl rfl hC1.1 (Nat.le_refl _) (Nat.le_refl _) ?_
  rw [u3]
  rintro r h2 ⟨rfl, hC2, hf1⟩
  (repeat (refine zS_one rfl ?_; simp (disch := (first | decide | assumption | omega)) only [i_push, i_null, i_ild, i_ald, i_ist, i_ast, i_inc, i_bin, i_div, i_un, i_dup, i_pop, i_dup2, i_if, i_icmp, i_nul, i_nnl, i_goto, i_getf, i_putf, i_gets, i_nald, i_nast, i_aald, i_aast, i_alen, i_new, i_newa, i_newq, i_math, i_oini, i_iret, i_zret, i_aret, i_vret, z_fit, List.getElem?_cons_zero, List.getElem?_cons_succ, List.set_cons_zero, List.set_cons_succ, Nat.reduceAdd, Nat.reduceLT, Nat.reduceLeDiff, Nat.reduceEqDiff, Nat.zero_lt_succ, Value.category, true_and, or_true, true_or, and_true, false_implies, true_implies, not_false_eq_true, not_true_eq_false, List.map_cons, List.map_nil, List.sum_cons, List.sum_nil, va_up_eq, bx_uu, va_up_lit, List.length_cons, List.length_nil, List.drop_succ_cons, List.drop_zero, Option.toList_some, Option.toList_none, List.cons_append, List.nil_append]))
  exact hP _ _ (Or.inr ⟨a, b, ⟨ha, rfl, rfl, hb'⟩, Or.inr ⟨rfl, hm, (hf.M (by decide)).tr hf1, n', den', hx, hC2⟩⟩)
theorem c_isStaticKey (sc : Nat × (Nat → Int32)) (d : Nat) (h : zH) (x : Int32) : zMt zTab sc (d + 1) 76 [.int x] h 0 0 (fun r h' => h' = h ∧ ((r = some (.int 1) ∧ ¬ x < 1 ∧ ¬ 8 < x) ∨ (r = some (.int 0) ∧ (x < 1 ∨ 8 < x)))) := by
  refine zM_gen fun P hP => ?_
  refine zM_start (r := r_St_isStaticKey) (cd := k_St_isStaticKey) (L0 := [some (.int x)]) rfl rfl rfl rfl rfl ?_
  by_cases h1 : x < 1
  · (repeat (refine zS_one rfl ?_; simp (disch := (first | decide | assumption | omega)) only [i_push, i_null, i_ild, i_ald, i_ist, i_ast, i_inc, i_bin, i_div, i_un, i_dup, i_pop, i_dup2, i_if, i_icmp, i_nul, i_nnl, i_goto, i_getf, i_putf, i_gets, i_nald, i_nast, i_aald, i_aast, i_alen, i_new, i_newa, i_newq, i_math, i_oini, i_iret, i_zret, i_aret, i_vret, z_fit, List.getElem?_cons_zero, List.getElem?_cons_succ, List.set_cons_zero, List.set_cons_succ, Nat.reduceAdd, Nat.reduceLT, Nat.reduceLeDiff, Nat.reduceEqDiff, Nat.zero_lt_succ, Value.category, true_and, or_true, true_or, and_true, false_implies, true_implies, not_false_eq_true, not_true_eq_false, List.map_cons, List.map_nil, List.sum_cons, List.sum_nil, va_up_eq, bx_uu, va_up_lit, List.length_cons, List.length_nil, List.drop_succ_cons, List.drop_zero, Option.toList_some, Option.toList_none, List.cons_append, List.nil_append, h1]))
    exact hP _ _ ⟨rfl, Or.inr ⟨rfl, Or.inl h1⟩⟩
  · by_cases h2 : 8 < x
    · (repeat (refine zS_one rfl ?_; simp (disch := (first | decide | assumption | omega)) only [i_push, i_null, i_ild, i_ald, i_ist, i_ast, i_inc, i_bin, i_div, i_un, i_dup, i_pop, i_dup2, i_if, i_icmp, i_nul, i_nnl, i_goto, i_getf, i_putf, i_gets, i_nald, i_nast, i_aald, i_aast, i_alen, i_new, i_newa, i_newq, i_math, i_oini, i_iret, i_zret, i_aret, i_vret, z_fit, List.getElem?_cons_zero, List.getElem?_cons_succ, List.set_cons_zero, List.set_cons_succ, Nat.reduceAdd, Nat.reduceLT, Nat.reduceLeDiff, Nat.reduceEqDiff, Nat.zero_lt_succ, Value.category, true_and, or_true, true_or, and_true, false_implies, true_implies, not_false_eq_true, not_true_eq_false, List.map_cons, List.map_nil, List.sum_cons, List.sum_nil, va_up_eq, bx_uu, va_up_lit, List.length_cons, List.length_nil, List.drop_succ_cons, List.drop_zero, Option.toList_some, Option.toList_none, List.cons_append, List.nil_append, h1, h2]))
      exact hP _ _ ⟨rfl, Or.inr ⟨rfl, Or.inr h2⟩⟩
    · (repeat (refine zS_one rfl ?_; simp (disch := (first | decide | assumption | omega)) only [i_push, i_null, i_ild, i_ald, i_ist, i_ast, i_inc, i_bin, i_div, i_un, i_dup, i_pop, i_dup2, i_if, i_icmp, i_nul, i_nnl, i_goto, i_getf, i_putf, i_gets, i_nald, i_nast, i_aald, i_aast, i_alen, i_new, i_newa, i_newq, i_math, i_oini, i_iret, i_zret, i_aret, i_vret, z_fit, List.getElem?_cons_zero, List.getElem?_cons_succ, List.set_cons_zero, List.set_cons_succ, Nat.reduceAdd, Nat.reduceLT, Nat.reduceLeDiff, Nat.reduceEqDiff, Nat.zero_lt_succ, Value.category, true_and, or_true, true_or, and_true, false_implies, true_implies, not_false_eq_true, not_true_eq_false, List.map_cons, List.map_nil, List.sum_cons, List.sum_nil, va_up_eq, bx_uu, va_up_lit, List.length_cons, List.length_nil, List.drop_succ_cons, List.drop_zero, Option.toList_some, Option.toList_none, List.cons_append, List.nil_append, h1, h2]))
      exact hP _ _ ⟨rfl, Or.inl ⟨rfl, h1, h2⟩⟩
end ST6
