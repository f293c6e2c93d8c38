theorem tOK.same {h h' : zH} {n k : Nat} {den : Nat → zT} {G : Nat → Int32} (hO : tOK h n k den G) (hs : ∀ q, q < 14 → h'.1 q = h.1 q) : tOK h' n k den G := by
  obtain ⟨T, ⟨e1, e2, e3, e4, e5, e6, e7, e8, e9, e10⟩, hI⟩ := hO
  exact ⟨T, ⟨(hs _ (by decide)).trans e1, (hs _ (by decide)).trans e2, (hs _ (by decide)).trans e3, (hs _ (by decide)).trans e4, (hs _ (by decide)).trans e5, (hs _ (by decide)).trans e6, (hs _ (by decide)).trans e7, (hs _ (by decide)).trans e8, (hs _ (by decide)).trans e9, (hs _ (by decide)).trans e10⟩, hI⟩
theorem mOK.same {h h' : zH} {n m : Nat} {den : Nat → zT} {ps : Nat → List zT} (hM : mOK h n den m ps) (hs : ∀ q, q < 14 → h'.1 q = h.1 q) : mOK h' n den m ps :=
  hM.ext (Nat.le_refl _) (fun _ _ _ => rfl) (hs _ (by decide)) (hs _ (by decide)) (hs _ (by decide))
/-- an agreement's fields are set -/
theorem wld_set {h : zH} {a n k m x y z : Nat} {den : Nat → zT} {G : Nat → Int32} {ps : Nat → List zT} {I : Nat → Int32} {Θ : Nat → zT} (ha : 44 ≤ a) (hT : tOK h n k den G) (hM : mOK h n den m ps) (hx : 0 < x ∧ x ≤ n ∧ den x = Θ 0) (hy : 0 < y ∧ y ≤ n ∧ den y = Θ 1) (hz : (z = 0 ∧ Θ 2 = []) ∨ (0 < z ∧ z ≤ n ∧ den z = Θ 2 ∧ Θ 2 ≠ [])) (hI : iOK I) : wld (va_up h.1 a (.inr (0, aF I x y z)), h.2) a n k den G m ps I Θ :=
  ⟨hT.same (fun q hq => va_up_lit _ _ _ _ (by omega)), hM.same (fun q hq => va_up_lit _ _ _ _ (by omega)), x, y, z, va_up_eq _ _ _, hx, hy, hz, hI⟩
theorem frA_set {h : zH} {a : Nat} {e : va_E} : frA a h (va_up h.1 a e, h.2) := ⟨fun q _ h9 => va_up_lit _ _ _ _ h9, rfl⟩
theorem den_ne {h : zH} {n k t : Nat} {den : Nat → zT} {G : Nat → Int32} (hO : tOK h n k den G) (h1 : 0 < t) (h2 : t ≤ n) : den t ≠ [] := by
  obtain ⟨T, hS, hI, hG⟩ := hO
  rcases hI.2.2.2.2.2.1 t h1 h2 with ⟨-, h⟩ | ⟨-, h⟩ | ⟨-, h⟩ | ⟨-, x, y, -, -, -, -, h⟩ | ⟨-, x, -, -, h⟩ | ⟨-, x, y, z, -, -, -, -, -, -, h⟩
  · rw [h.2.2.2]; exact nd_ne
  · rw [h.2.2.2.2]; exact nd_ne
  · rw [h.2.2.2.2]; exact nd_ne
  · rw [h.2.2.2.2]; exact nd_ne
  · rw [h.2.2.2]; exact nd_ne
  · rw [h.2.2.2]; exact nd_ne
theorem wld.mk {h h' : zH} {a n n' k c lo hi m : Nat} {den den' : Nat → zT} {G : Nat → Int32} {ps : Nat → List zT} {I : Nat → Int32} {Θ : Nat → zT} (hw : wld h a n k den G m ps I Θ) (ha : 44 ≤ a) (hT : tOK h' n' k den' G) (hx : exq n den n' den' c) (hf : fr lo hi h h') (h1 : hi ≤ 10) : wld h' a n' k den' G m ps I Θ :=
  ⟨hT, hw.2.1.fr hx.1 hx.2.2 hf (by omega), hw.2.2.ext hx (hf.1 _ (by omega))⟩
theorem iOK_6 {I : Nat → Int32} (v : Int32) (h : iOK I) : iOK (va_up I 6 v) := h
/-- the part as which a term is put; the counter behind it -/
noncomputable def prt (I : Nat → Int32) (Θ : Nat → zT) (τ : zT) : zT := if Θ 2 = [] then τ else nd 8 (I 6).toInt 0 (Θ 2) (Θ 0) τ
noncomputable def inc (I : Nat → Int32) (Θ : Nat → zT) : Nat → Int32 := if Θ 2 = [] then I else va_up I 6 (I 6 + 1)
theorem sub1 (x : Int32) : x + 1 - 1 = x := Int32.add_sub_cancel x 1
section AG2
variable {h0 : zH} {a n k m : Nat} {den : Nat → zT} {G : Nat → Int32} {ps : Nat → List zT} {I : Nat → Int32} {Θ : Nat → zT}
theorem c_closedUp (sc : Nat × (Nat → Int32)) (d : Nat) (ha : 44 ≤ a) (hw : wld h0 a n k den G m ps I Θ) (hn : n < 719) {t : Nat} (ht : 0 < t) (htn : t ≤ n) : zMt zTab sc (d + 4) 11 [.ref a, .int (nI t)] h0 0 0 (fun r h' => ∃ u n' den', r = some (.int (nI u)) ∧ 0 < u ∧ u ≤ n' ∧ den' u = prt I Θ (den t) ∧ wQ h0 a n den 1 k G m ps (inc I Θ) Θ h' n' den') := by
  have hw0 := hw
  obtain ⟨hT, hM, x, y, z, e, hx, hy, hz, hI⟩ := hw
  have e0 := e
  unfold aF at e
  refine zM_gen fun P hP => ?_
  refine zM_start (r := r_Ag_closedUp) (cd := k_Ag_closedUp) (L0 := [some (.ref a), some (.int (nI t))]) rfl rfl rfl rfl rfl ?_
  rcases hz with ⟨rfl, hk⟩ | ⟨z1, z2, z3, z4⟩
  · (repeat (refine zS_one rfl ?_; simp (disch := (first | decide | assumption | omega)) only [i_push, i_null, i_ild, i_ald, i_ist, i_ast, i_inc, i_bin, i_div, i_un, i_dup, i_pop, i_dup2, i_if, i_icmp, i_nul, i_nnl, i_goto, i_getf, i_putf, i_gets, i_nald, i_nast, i_aald, i_aast, i_alen, i_new, i_newa, i_newq, i_math, i_oini, i_iret, i_zret, i_aret, i_vret, z_fit, List.getElem?_cons_zero, List.getElem?_cons_succ, List.set_cons_zero, List.set_cons_succ, Nat.reduceAdd, Nat.reduceLT, Nat.reduceLeDiff, Nat.reduceEqDiff, Nat.zero_lt_succ, Value.category, true_and, or_true, true_or, and_true, false_implies, true_implies, not_false_eq_true, not_true_eq_false, List.map_cons, List.map_nil, List.sum_cons, List.sum_nil, va_up_eq, bx_uu, va_up_lit, List.length_cons, List.length_nil, List.drop_succ_cons, List.drop_zero, Option.toList_some, Option.toList_none, List.cons_append, List.nil_append, e, nI_0]))
    refine hP _ _ ⟨t, n, den, rfl, ht, htn, ?_, exq.rf, ?_, frA.rf⟩
    · unfold prt; rw [if_pos hk]
    · unfold inc; rw [if_pos hk]; exact hw0
  · have w : ¬ nI z = 0 := nI_ne0 z1 (by obtain ⟨T, -, hI2, -⟩ := hT; have := hI2.1; omega)
    (repeat (refine zS_one rfl ?_; simp (disch := (first | decide | assumption | omega)) only [i_push, i_null, i_ild, i_ald, i_ist, i_ast, i_inc, i_bin, i_div, i_un, i_dup, i_pop, i_dup2, i_if, i_icmp, i_nul, i_nnl, i_goto, i_getf, i_putf, i_gets, i_nald, i_nast, i_aald, i_aast, i_alen, i_new, i_newa, i_newq, i_math, i_oini, i_iret, i_zret, i_aret, i_vret, z_fit, List.getElem?_cons_zero, List.getElem?_cons_succ, List.set_cons_zero, List.set_cons_succ, Nat.reduceAdd, Nat.reduceLT, Nat.reduceLeDiff, Nat.reduceEqDiff, Nat.zero_lt_succ, Value.category, true_and, or_true, true_or, and_true, false_implies, true_implies, not_false_eq_true, not_true_eq_false, List.map_cons, List.map_nil, List.sum_cons, List.sum_nil, va_up_eq, bx_uu, va_up_lit, List.length_cons, List.length_nil, List.drop_succ_cons, List.drop_zero, Option.toList_some, Option.toList_none, List.cons_append, List.nil_append, e, w, sub1]))
    (try refine zS_one rfl ?_)
    have hw1 : wld (va_up h0.1 a (.inr (0, aF (va_up I 6 (I 6 + 1)) x y z)), h0.2) a n k den G m ps (va_up I 6 (I 6 + 1)) Θ := wld_set ha hT hM hx hy (Or.inr ⟨z1, z2, z3, z4⟩) hI
    refine r_callV (c_seal sc d (h0 := (va_up h0.1 a (.inr (0, aF (va_up I 6 (I 6 + 1)) x y z)), h0.2)) hw1.1 hn (I 6) z1 z2 hx.1 hx.2.1 ht htn) rfl rfl rfl rfl hw1.1.o (Nat.le_refl _) (Nat.le_refl _) ?_
    rintro r h2 ⟨u, n', den', rfl, u1, u2, u3, hT2, g1, g2, g3, hf2⟩
    (repeat (refine zS_one rfl ?_; simp (disch := (first | decide | assumption | omega)) only [i_push, i_null, i_ild, i_ald, i_ist, i_ast, i_inc, i_bin, i_div, i_un, i_dup, i_pop, i_dup2, i_if, i_icmp, i_nul, i_nnl, i_goto, i_getf, i_putf, i_gets, i_nald, i_nast, i_aald, i_aast, i_alen, i_new, i_newa, i_newq, i_math, i_oini, i_iret, i_zret, i_aret, i_vret, z_fit, List.getElem?_cons_zero, List.getElem?_cons_succ, List.set_cons_zero, List.set_cons_succ, Nat.reduceAdd, Nat.reduceLT, Nat.reduceLeDiff, Nat.reduceEqDiff, Nat.zero_lt_succ, Value.category, true_and, or_true, true_or, and_true, false_implies, true_implies, not_false_eq_true, not_true_eq_false, List.map_cons, List.map_nil, List.sum_cons, List.sum_nil, va_up_eq, bx_uu, va_up_lit, List.length_cons, List.length_nil, List.drop_succ_cons, List.drop_zero, Option.toList_some, Option.toList_none, List.cons_append, List.nil_append]))
    have hx2 : exq n den n' den' 1 := ⟨g1, g2, g3⟩
    refine hP _ _ ⟨u, n', den', rfl, u1, u2, ?_, hx2, ?_, frA_set.tr (hf2.A (by decide) (by decide))⟩
    · unfold prt; rw [if_neg z4, u3, z3, hx.2.2]
    · unfold inc; rw [if_neg z4]; exact hw1.mk ha hT2 hx2 hf2 (by decide)
/-- what is taken from a part -/
def opn (I : Nat → Int32) (Θ : Nat → zT) (τ Z : zT) : Prop := (Θ 2 = [] ∧ Z = τ) ∨ (Θ 2 ≠ [] ∧ τ = nd 8 (I 6).toInt 0 (Θ 2) (Θ 0) Z)
theorem c_openedUp (sc : Nat × (Nat → Int32)) (d : Nat) (ha : 44 ≤ a) (hw : wld h0 a n k den G m ps I Θ) {t : Nat} (htn : t ≤ n) : zMt zTab sc (d + 3) 12 [.ref a, .int (nI t)] h0 0 0 (fun r h' => (∃ u Z, r = some (.int (nI u)) ∧ 0 < t ∧ opn I Θ (den t) Z ∧ 0 < u ∧ u ≤ n ∧ den u = Z ∧ wld h' a n k den G m ps (inc I Θ) Θ ∧ frA a h0 h') ∨ (r = some (.int 0) ∧ h' = h0 ∧ (t = 0 ∨ ∀ Z, ¬ opn I Θ (den t) Z))) := by
  have hw0 := hw
  obtain ⟨hT, hM, x, y, z, e, hx, hy, hz, hI⟩ := hw
  have e0 := e
  unfold aF at e
  refine zM_gen fun P hP => ?_
  refine zM_start (r := r_Ag_openedUp) (cd := k_Ag_openedUp) (L0 := [some (.ref a), some (.int (nI t))]) rfl rfl rfl rfl rfl ?_
  rcases hz with ⟨rfl, hk⟩ | ⟨z1, z2, z3, z4⟩
  · (repeat (refine zS_one rfl ?_; simp (disch := (first | decide | assumption | omega)) only [i_push, i_null, i_ild, i_ald, i_ist, i_ast, i_inc, i_bin, i_div, i_un, i_dup, i_pop, i_dup2, i_if, i_icmp, i_nul, i_nnl, i_goto, i_getf, i_putf, i_gets, i_nald, i_nast, i_aald, i_aast, i_alen, i_new, i_newa, i_newq, i_math, i_oini, i_iret, i_zret, i_aret, i_vret, z_fit, List.getElem?_cons_zero, List.getElem?_cons_succ, List.set_cons_zero, List.set_cons_succ, Nat.reduceAdd, Nat.reduceLT, Nat.reduceLeDiff, Nat.reduceEqDiff, Nat.zero_lt_succ, Value.category, true_and, or_true, true_or, and_true, false_implies, true_implies, not_false_eq_true, not_true_eq_false, List.map_cons, List.map_nil, List.sum_cons, List.sum_nil, va_up_eq, bx_uu, va_up_lit, List.length_cons, List.length_nil, List.drop_succ_cons, List.drop_zero, Option.toList_some, Option.toList_none, List.cons_append, List.nil_append, e, nI_0]))
    by_cases ht : t = 0
    · subst ht
      exact hP _ _ (Or.inr ⟨rfl, rfl, Or.inl rfl⟩)
    · refine hP _ _ (Or.inl ⟨t, den t, rfl, by omega, Or.inl ⟨hk, rfl⟩, by omega, htn, rfl, ?_, frA.rf⟩)
      unfold inc; rw [if_pos hk]; exact hw0
  · have w : ¬ nI z = 0 := nI_ne0 z1 (by obtain ⟨T, -, hI2, -⟩ := hT; have := hI2.1; omega)
    (repeat (refine zS_one rfl ?_; simp (disch := (first | decide | assumption | omega)) only [i_push, i_null, i_ild, i_ald, i_ist, i_ast, i_inc, i_bin, i_div, i_un, i_dup, i_pop, i_dup2, i_if, i_icmp, i_nul, i_nnl, i_goto, i_getf, i_putf, i_gets, i_nald, i_nast, i_aald, i_aast, i_alen, i_new, i_newa, i_newq, i_math, i_oini, i_iret, i_zret, i_aret, i_vret, z_fit, List.getElem?_cons_zero, List.getElem?_cons_succ, List.set_cons_zero, List.set_cons_succ, Nat.reduceAdd, Nat.reduceLT, Nat.reduceLeDiff, Nat.reduceEqDiff, Nat.zero_lt_succ, Value.category, true_and, or_true, true_or, and_true, false_implies, true_implies, not_false_eq_true, not_true_eq_false, List.map_cons, List.map_nil, List.sum_cons, List.sum_nil, va_up_eq, bx_uu, va_up_lit, List.length_cons, List.length_nil, List.drop_succ_cons, List.drop_zero, Option.toList_some, Option.toList_none, List.cons_append, List.nil_append, e, w]))
    (try refine zS_one rfl ?_)
    refine r_callV (c_isSealOf sc d hT (c := I 6) htn z1 z2 hx.1 hx.2.1) rfl rfl rfl rfl hT.o (Nat.le_refl _) (Nat.le_refl _) ?_
    have w1 : ¬ (1 : Int32) = 0 := by decide
    rintro r h' ⟨rfl, ⟨rfl, ht, Z, hs⟩ | ⟨rfl, hno⟩⟩
    · (repeat (refine zS_one rfl ?_; simp (disch := (first | decide | assumption | omega)) only [i_push, i_null, i_ild, i_ald, i_ist, i_ast, i_inc, i_bin, i_div, i_un, i_dup, i_pop, i_dup2, i_if, i_icmp, i_nul, i_nnl, i_goto, i_getf, i_putf, i_gets, i_nald, i_nast, i_aald, i_aast, i_alen, i_new, i_newa, i_newq, i_math, i_oini, i_iret, i_zret, i_aret, i_vret, z_fit, List.getElem?_cons_zero, List.getElem?_cons_succ, List.set_cons_zero, List.set_cons_succ, Nat.reduceAdd, Nat.reduceLT, Nat.reduceLeDiff, Nat.reduceEqDiff, Nat.zero_lt_succ, Value.category, true_and, or_true, true_or, and_true, false_implies, true_implies, not_false_eq_true, not_true_eq_false, List.map_cons, List.map_nil, List.sum_cons, List.sum_nil, va_up_eq, bx_uu, va_up_lit, List.length_cons, List.length_nil, List.drop_succ_cons, List.drop_zero, Option.toList_some, Option.toList_none, List.cons_append, List.nil_append, e, w1]))
      (try refine zS_one rfl ?_)
      have hw1 : wld (va_up h'.1 a (.inr (0, aF (va_up I 6 (I 6 + 1)) x y z)), h'.2) a n k den G m ps (va_up I 6 (I 6 + 1)) Θ := wld_set ha hT hM hx hy (Or.inr ⟨z1, z2, z3, z4⟩) hI
      refine r_callV (c_insideOf sc (d + 1) (h0 := (va_up h'.1 a (.inr (0, aF (va_up I 6 (I 6 + 1)) x y z)), h'.2)) hw1.1 ht htn hs) rfl rfl rfl rfl hw1.1.o (Nat.le_refl _) (Nat.le_refl _) ?_
      rintro r h2 ⟨rfl, u, rfl, u1, u2, u3⟩
      (repeat (refine zS_one rfl ?_; simp (disch := (first | decide | assumption | omega)) only [i_push, i_null, i_ild, i_ald, i_ist, i_ast, i_inc, i_bin, i_div, i_un, i_dup, i_pop, i_dup2, i_if, i_icmp, i_nul, i_nnl, i_goto, i_getf, i_putf, i_gets, i_nald, i_nast, i_aald, i_aast, i_alen, i_new, i_newa, i_newq, i_math, i_oini, i_iret, i_zret, i_aret, i_vret, z_fit, List.getElem?_cons_zero, List.getElem?_cons_succ, List.set_cons_zero, List.set_cons_succ, Nat.reduceAdd, Nat.reduceLT, Nat.reduceLeDiff, Nat.reduceEqDiff, Nat.zero_lt_succ, Value.category, true_and, or_true, true_or, and_true, false_implies, true_implies, not_false_eq_true, not_true_eq_false, List.map_cons, List.map_nil, List.sum_cons, List.sum_nil, va_up_eq, bx_uu, va_up_lit, List.length_cons, List.length_nil, List.drop_succ_cons, List.drop_zero, Option.toList_some, Option.toList_none, List.cons_append, List.nil_append]))
      refine hP _ _ (Or.inl ⟨u, Z, rfl, ht, Or.inr ⟨z4, by rw [hs, z3, hx.2.2]⟩, u1, u2, u3, ?_, frA_set⟩)
      unfold inc; rw [if_neg z4]; exact hw1
    · (repeat (refine zS_one rfl ?_; simp (disch := (first | decide | assumption | omega)) only [i_push, i_null, i_ild, i_ald, i_ist, i_ast, i_inc, i_bin, i_div, i_un, i_dup, i_pop, i_dup2, i_if, i_icmp, i_nul, i_nnl, i_goto, i_getf, i_putf, i_gets, i_nald, i_nast, i_aald, i_aast, i_alen, i_new, i_newa, i_newq, i_math, i_oini, i_iret, i_zret, i_aret, i_vret, z_fit, List.getElem?_cons_zero, List.getElem?_cons_succ, List.set_cons_zero, List.set_cons_succ, Nat.reduceAdd, Nat.reduceLT, Nat.reduceLeDiff, Nat.reduceEqDiff, Nat.zero_lt_succ, Value.category, true_and, or_true, true_or, and_true, false_implies, true_implies, not_false_eq_true, not_true_eq_false, List.map_cons, List.map_nil, List.sum_cons, List.sum_nil, va_up_eq, bx_uu, va_up_lit, List.length_cons, List.length_nil, List.drop_succ_cons, List.drop_zero, Option.toList_some, Option.toList_none, List.cons_append, List.nil_append]))
      refine hP _ _ (Or.inr ⟨rfl, rfl, ?_⟩)
      rcases hno with hno | hno
      · exact Or.inl hno
      · refine Or.inr (fun Z hz => ?_)
        rcases hz with ⟨hz, -⟩ | ⟨-, hz⟩
        · exact z4 hz
        · exact hno Z (by rw [hz, z3, hx.2.2])
end AG2
