section MOM
variable {h0 : zH} {S : Nat → Int32} {A : Nat → Nat → Int32} {ns n made m : Nat} {den : Nat → zT} {G : Nat → Int32} {ps : Nat → List zT} {V : Nat → zV}
theorem MO.part (hM : MO h0 ns n made den G m ps V S A) {i j : Int32} {a b : Nat} (h : inP m ps i j a b) : ∃ t τ, t < n ∧ A 23 (3 * a + b) = nI t ∧ den t = τ ∧ (ps a)[b]? = some τ ∧ (ps a).length ≤ 3 := by
  obtain ⟨h1, -, -, h4⟩ := h
  obtain ⟨-, hl, hr⟩ := hM.2.2.2.2.1 a h1
  obtain ⟨t, ht, e, ed⟩ := hr b _ (List.getElem?_eq_getElem h4)
  exact ⟨t, _, ht, e, ed, List.getElem?_eq_getElem h4, hl⟩
set_option maxHeartbeats 4000000 in
theorem c_Msame (sc : Nat × (Nat → Int32)) (d : Nat) (hM : MO h0 ns n made den G m ps V S A) (i j i' j' : Int32) : zMt zTab sc (d + 3) 124 [.ref 15, .int i, .int j, .int i', .int j'] h0 0 0 (fun r h' => h' = h0 ∧ ((r = some (.int 1) ∧ ∃ a b a' b' τ, inP m ps i j a b ∧ inP m ps i' j' a' b' ∧ (ps a)[b]? = some τ ∧ (ps a')[b']? = some τ) ∨ (r = some (.int 0) ∧ ∀ a b a' b' τ, inP m ps i j a b → inP m ps i' j' a' b' → (ps a)[b]? = some τ → ¬ (ps a')[b']? = some τ))) := by
  have hW := hM.1
  have o := hW.o
  have hm := hM.2.2.1.2.1
  have a23 := hW.a 23 0 180 (by decide) (by decide) rfl rfl
  have q10 : ¬ (1 : Int32) = 0 := by decide
  refine zM_gen fun P hP => ?_
  refine zM_start (r := r_Mo_same) (cd := k_Mo_same) (L0 := [some (.ref 15), some (.int i), some (.int j), some (.int i'), some (.int j')]) rfl rfl rfl rfl rfl ?_
  (repeat (refine zS_one rfl ?_; simp (disch := (first | decide | assumption | omega)) only [i_push, i_null, i_ild, i_ald, i_ist, i_ast, i_inc, i_bin, i_div, i_un, i_dup, i_pop, i_dup2, i_if, i_icmp, i_nul, i_nnl, i_goto, i_getf, i_putf, i_gets, i_nald, i_nast, i_aald, i_aast, i_alen, i_new, i_newa, i_newq, i_math, i_oini, i_iret, i_zret, i_aret, i_vret, z_fit, List.getElem?_cons_zero, List.getElem?_cons_succ, List.set_cons_zero, List.set_cons_succ, Nat.reduceAdd, Nat.reduceLT, Nat.reduceLeDiff, Nat.reduceEqDiff, Nat.zero_lt_succ, Value.category, true_and, or_true, true_or, and_true, false_implies, true_implies, not_false_eq_true, not_true_eq_false, List.map_cons, List.map_nil, List.sum_cons, List.sum_nil, va_up_eq, bx_uu, va_up_lit, List.length_cons, List.length_nil, List.drop_succ_cons, List.drop_zero, Option.toList_some, Option.toList_none, List.cons_append, List.nil_append]))
  (try refine zS_one rfl ?_)
  refine r_callV (c_isPart sc d hM i j) rfl rfl rfl rfl hW.f (Nat.le_refl _) (Nat.le_refl _) ?_
  rintro r h' ⟨rfl, ⟨rfl, a, b, hab⟩ | ⟨rfl, hno⟩⟩
  rotate_left
  · (repeat (refine zS_one rfl ?_; simp (disch := (first | decide | assumption | omega)) only [i_push, i_null, i_ild, i_ald, i_ist, i_ast, i_inc, i_bin, i_div, i_un, i_dup, i_pop, i_dup2, i_if, i_icmp, i_nul, i_nnl, i_goto, i_getf, i_putf, i_gets, i_nald, i_nast, i_aald, i_aast, i_alen, i_new, i_newa, i_newq, i_math, i_oini, i_iret, i_zret, i_aret, i_vret, z_fit, List.getElem?_cons_zero, List.getElem?_cons_succ, List.set_cons_zero, List.set_cons_succ, Nat.reduceAdd, Nat.reduceLT, Nat.reduceLeDiff, Nat.reduceEqDiff, Nat.zero_lt_succ, Value.category, true_and, or_true, true_or, and_true, false_implies, true_implies, not_false_eq_true, not_true_eq_false, List.map_cons, List.map_nil, List.sum_cons, List.sum_nil, va_up_eq, bx_uu, va_up_lit, List.length_cons, List.length_nil, List.drop_succ_cons, List.drop_zero, Option.toList_some, Option.toList_none, List.cons_append, List.nil_append]))
    exact hP _ _ ⟨rfl, Or.inr ⟨rfl, fun a b a' b' τ z => absurd z (hno a b)⟩⟩
  (repeat (refine zS_one rfl ?_; simp (disch := (first | decide | assumption | omega)) only [i_push, i_null, i_ild, i_ald, i_ist, i_ast, i_inc, i_bin, i_div, i_un, i_dup, i_pop, i_dup2, i_if, i_icmp, i_nul, i_nnl, i_goto, i_getf, i_putf, i_gets, i_nald, i_nast, i_aald, i_aast, i_alen, i_new, i_newa, i_newq, i_math, i_oini, i_iret, i_zret, i_aret, i_vret, z_fit, List.getElem?_cons_zero, List.getElem?_cons_succ, List.set_cons_zero, List.set_cons_succ, Nat.reduceAdd, Nat.reduceLT, Nat.reduceLeDiff, Nat.reduceEqDiff, Nat.zero_lt_succ, Value.category, true_and, or_true, true_or, and_true, false_implies, true_implies, not_false_eq_true, not_true_eq_false, List.map_cons, List.map_nil, List.sum_cons, List.sum_nil, va_up_eq, bx_uu, va_up_lit, List.length_cons, List.length_nil, List.drop_succ_cons, List.drop_zero, Option.toList_some, Option.toList_none, List.cons_append, List.nil_append, q10]))
  (try refine zS_one rfl ?_)
  refine r_callV (c_isPart sc d hM i' j') rfl rfl rfl rfl hW.f (Nat.le_refl _) (Nat.le_refl _) ?_
  rintro r h' ⟨rfl, ⟨rfl, a', b', hab'⟩ | ⟨rfl, hno⟩⟩
  rotate_left
  · (repeat (refine zS_one rfl ?_; simp (disch := (first | decide | assumption | omega)) only [i_push, i_null, i_ild, i_ald, i_ist, i_ast, i_inc, i_bin, i_div, i_un, i_dup, i_pop, i_dup2, i_if, i_icmp, i_nul, i_nnl, i_goto, i_getf, i_putf, i_gets, i_nald, i_nast, i_aald, i_aast, i_alen, i_new, i_newa, i_newq, i_math, i_oini, i_iret, i_zret, i_aret, i_vret, z_fit, List.getElem?_cons_zero, List.getElem?_cons_succ, List.set_cons_zero, List.set_cons_succ, Nat.reduceAdd, Nat.reduceLT, Nat.reduceLeDiff, Nat.reduceEqDiff, Nat.zero_lt_succ, Value.category, true_and, or_true, true_or, and_true, false_implies, true_implies, not_false_eq_true, not_true_eq_false, List.map_cons, List.map_nil, List.sum_cons, List.sum_nil, va_up_eq, bx_uu, va_up_lit, List.length_cons, List.length_nil, List.drop_succ_cons, List.drop_zero, Option.toList_some, Option.toList_none, List.cons_append, List.nil_append]))
    exact hP _ _ ⟨rfl, Or.inr ⟨rfl, fun a b a' b' τ _ z => absurd z (hno a' b')⟩⟩
  obtain ⟨t, τ, ht, et, ed, hg, hl⟩ := hM.part hab
  obtain ⟨t', τ', ht', et', ed', hg', hl'⟩ := hM.part hab'
  have h12 := hW.2.2.1
  obtain ⟨h1, rfl, rfl, h4⟩ := id hab
  obtain ⟨h1', rfl, rfl, h4'⟩ := id hab'
  have v1 : vp_in (nI (3 * a + b)) 180 := vp_in_nI (by omega) (by decide)
  have v2 : (nI (3 * a + b)).toNatClampNeg = 3 * a + b := nI_clamp (by omega)
  have v3 : vp_in (nI (3 * a' + b')) 180 := vp_in_nI (by omega) (by decide)
  have v4 : (nI (3 * a' + b')).toNatClampNeg = 3 * a' + b' := nI_clamp (by omega)
  by_cases z : t = t'
  · subst z
    (repeat (refine zS_one rfl ?_; simp (disch := (first | decide | assumption | omega)) only [i_push, i_null, i_ild, i_ald, i_ist, i_ast, i_inc, i_bin, i_div, i_un, i_dup, i_pop, i_dup2, i_if, i_icmp, i_nul, i_nnl, i_goto, i_getf, i_putf, i_gets, i_nald, i_nast, i_aald, i_aast, i_alen, i_new, i_newa, i_newq, i_math, i_oini, i_iret, i_zret, i_aret, i_vret, z_fit, List.getElem?_cons_zero, List.getElem?_cons_succ, List.set_cons_zero, List.set_cons_succ, Nat.reduceAdd, Nat.reduceLT, Nat.reduceLeDiff, Nat.reduceEqDiff, Nat.zero_lt_succ, Value.category, true_and, or_true, true_or, and_true, false_implies, true_implies, not_false_eq_true, not_true_eq_false, List.map_cons, List.map_nil, List.sum_cons, List.sum_nil, va_up_eq, bx_uu, va_up_lit, List.length_cons, List.length_nil, List.drop_succ_cons, List.drop_zero, Option.toList_some, Option.toList_none, List.cons_append, List.nil_append, o, a23, q10, nI_3, v1, v2, v3, v4, et, et']))
    exact hP _ _ ⟨rfl, Or.inl ⟨rfl, a, b, a', b', τ, hab, hab', hg, by rw [hg', ← ed', ed]⟩⟩
  · have z' : ¬ nI t = nI t' := fun q => z (nI_inj (by omega) (by omega) q)
    (repeat (refine zS_one rfl ?_; simp (disch := (first | decide | assumption | omega)) only [i_push, i_null, i_ild, i_ald, i_ist, i_ast, i_inc, i_bin, i_div, i_un, i_dup, i_pop, i_dup2, i_if, i_icmp, i_nul, i_nnl, i_goto, i_getf, i_putf, i_gets, i_nald, i_nast, i_aald, i_aast, i_alen, i_new, i_newa, i_newq, i_math, i_oini, i_iret, i_zret, i_aret, i_vret, z_fit, List.getElem?_cons_zero, List.getElem?_cons_succ, List.set_cons_zero, List.set_cons_succ, Nat.reduceAdd, Nat.reduceLT, Nat.reduceLeDiff, Nat.reduceEqDiff, Nat.zero_lt_succ, Value.category, true_and, or_true, true_or, and_true, false_implies, true_implies, not_false_eq_true, not_true_eq_false, List.map_cons, List.map_nil, List.sum_cons, List.sum_nil, va_up_eq, bx_uu, va_up_lit, List.length_cons, List.length_nil, List.drop_succ_cons, List.drop_zero, Option.toList_some, Option.toList_none, List.cons_append, List.nil_append, o, a23, q10, nI_3, v1, v2, v3, v4, et, et', z']))
    refine hP _ _ ⟨rfl, Or.inr ⟨rfl, fun x y x' y' σ p1 p2 g1 g2 => z ?_⟩⟩
    have r1 := nI_inj (by omega) (by have := p1.1; omega) p1.2.1
    have r2 := nI_inj (by omega) (by have := p2.1; omega) p2.2.1
    subst r1 r2
    have hlx := p1.2.2.2
    have hlx' := p2.2.2.2
    have r3 := nI_inj (by omega) (by omega) p1.2.2.1
    have r4 := nI_inj (by omega) (by omega) p2.2.2.1
    subst r3 r4
    rw [hg] at g1
    rw [hg'] at g2
    cases g1
    cases g2
    exact hW.2.2.2.2 t t' ht ht' (ed.trans ed'.symm)
end MOM
