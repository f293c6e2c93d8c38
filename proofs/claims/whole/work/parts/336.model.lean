section MOX
variable {h0 : zH} {S : Nat → Int32} {A : Nat → Nat → Int32} {ns n made m : Nat} {den : Nat → zT} {G : Nat → Int32} {ps : Nat → List zT} {V : Nat → zV}
theorem MO.kn {h' : zH} {K : Nat → Int32} (hM : MO h0 ns n made den G m ps V S A) (hW : MW h' S (va_up A 21 K) n den) : MO h' ns n made den G m ps V S (va_up A 21 K) := hM.mv (c := 0) hW exM.rf ⟨rfl, rfl, rfl⟩ (fun p z1 _ => va_up_lit _ _ _ _ (by omega))
set_option maxHeartbeats 4000000 in
theorem c_Mopen (sc : Nat × (Nat → Int32)) (d : Nat) (hM : MO h0 ns n made den G m ps V S A) (hst : ∀ s, s < ns → ¬ lim (V s).1 < (V s).1 7) (i : Int32) : zMt zTab sc (d + 3) 120 [.ref 15, .int i] h0 0 0 (fun r h' => frN h0 h' ∧ (∃ A', MO h' ns n made den G m ps V S A') ∧ ((∃ s y K v, s < ns ∧ i = nI s ∧ ¬ (V s).1 7 < lim (V s).1 ∧ y < n ∧ den y = (V s).2.1 1 ∧ KM n den G K ∧ r = some (.int v) ∧ ((v = 1 ∧ ¬ K y = 0) ∨ (v = 0 ∧ K y = 0))) ∨ (r = some (.int 0) ∧ ((∀ s, s < ns → i ≠ nI s) ∨ ∃ s, s < ns ∧ i = nI s ∧ (V s).1 7 < lim (V s).1)))) := by
  have hn12 := hM.2.2.1.1
  have q10 : ¬ (1 : Int32) = 0 := by decide
  refine zM_gen fun P hP => ?_
  refine zM_start (r := r_Mo_open) (cd := k_Mo_open) (L0 := [some (.ref 15), some (.int i)]) rfl rfl rfl rfl rfl ?_
  (repeat (refine zS_one rfl ?_; simp (disch := (first | decide | assumption | omega)) only [i_push, i_null, i_ild, i_ald, i_ist, i_ast, i_inc, i_bin, i_div, i_un, i_dup, i_pop, i_dup2, i_if, i_icmp, i_nul, i_nnl, i_goto, i_getf, i_putf, i_gets, i_nald, i_nast, i_aald, i_aast, i_alen, i_new, i_newa, i_newq, i_math, i_oini, i_iret, i_zret, i_aret, i_vret, z_fit, List.getElem?_cons_zero, List.getElem?_cons_succ, List.set_cons_zero, List.set_cons_succ, Nat.reduceAdd, Nat.reduceLT, Nat.reduceLeDiff, Nat.reduceEqDiff, Nat.zero_lt_succ, Value.category, true_and, or_true, true_or, and_true, false_implies, true_implies, not_false_eq_true, not_true_eq_false, List.map_cons, List.map_nil, List.sum_cons, List.sum_nil, va_up_eq, bx_uu, va_up_lit, List.length_cons, List.length_nil, List.drop_succ_cons, List.drop_zero, Option.toList_some, Option.toList_none, List.cons_append, List.nil_append]))
  (try refine zS_one rfl ?_)
  refine r_callV (c_isSession sc d hM i) rfl rfl rfl rfl hM.1.f (Nat.le_refl _) (Nat.le_refl _) ?_
  rintro r h' ⟨rfl, ⟨rfl, s, hs, rfl⟩ | ⟨rfl, hno⟩⟩
  rotate_left
  · (repeat (refine zS_one rfl ?_; simp (disch := (first | decide | assumption | omega)) only [i_push, i_null, i_ild, i_ald, i_ist, i_ast, i_inc, i_bin, i_div, i_un, i_dup, i_pop, i_dup2, i_if, i_icmp, i_nul, i_nnl, i_goto, i_getf, i_putf, i_gets, i_nald, i_nast, i_aald, i_aast, i_alen, i_new, i_newa, i_newq, i_math, i_oini, i_iret, i_zret, i_aret, i_vret, z_fit, List.getElem?_cons_zero, List.getElem?_cons_succ, List.set_cons_zero, List.set_cons_succ, Nat.reduceAdd, Nat.reduceLT, Nat.reduceLeDiff, Nat.reduceEqDiff, Nat.zero_lt_succ, Value.category, true_and, or_true, true_or, and_true, false_implies, true_implies, not_false_eq_true, not_true_eq_false, List.map_cons, List.map_nil, List.sum_cons, List.sum_nil, va_up_eq, bx_uu, va_up_lit, List.length_cons, List.length_nil, List.drop_succ_cons, List.drop_zero, Option.toList_some, Option.toList_none, List.cons_append, List.nil_append]))
    exact hP _ _ ⟨frN.rf, ⟨A, hM⟩, Or.inr ⟨rfl, Or.inl hno⟩⟩
  (repeat (refine zS_one rfl ?_; simp (disch := (first | decide | assumption | omega)) only [i_push, i_null, i_ild, i_ald, i_ist, i_ast, i_inc, i_bin, i_div, i_un, i_dup, i_pop, i_dup2, i_if, i_icmp, i_nul, i_nnl, i_goto, i_getf, i_putf, i_gets, i_nald, i_nast, i_aald, i_aast, i_alen, i_new, i_newa, i_newq, i_math, i_oini, i_iret, i_zret, i_aret, i_vret, z_fit, List.getElem?_cons_zero, List.getElem?_cons_succ, List.set_cons_zero, List.set_cons_succ, Nat.reduceAdd, Nat.reduceLT, Nat.reduceLeDiff, Nat.reduceEqDiff, Nat.zero_lt_succ, Value.category, true_and, or_true, true_or, and_true, false_implies, true_implies, not_false_eq_true, not_true_eq_false, List.map_cons, List.map_nil, List.sum_cons, List.sum_nil, va_up_eq, bx_uu, va_up_lit, List.length_cons, List.length_nil, List.drop_succ_cons, List.drop_zero, Option.toList_some, Option.toList_none, List.cons_append, List.nil_append, q10]))
  (try refine zS_one rfl ?_)
  refine r_callV (c_MisDone sc d hM hs (hst s hs)) rfl rfl rfl rfl hM.1.f (Nat.le_refl _) (Nat.le_refl _) ?_
  rintro r h' ⟨rfl, ⟨rfl, hd⟩ | ⟨rfl, hd⟩⟩
  rotate_left
  · (repeat (refine zS_one rfl ?_; simp (disch := (first | decide | assumption | omega)) only [i_push, i_null, i_ild, i_ald, i_ist, i_ast, i_inc, i_bin, i_div, i_un, i_dup, i_pop, i_dup2, i_if, i_icmp, i_nul, i_nnl, i_goto, i_getf, i_putf, i_gets, i_nald, i_nast, i_aald, i_aast, i_alen, i_new, i_newa, i_newq, i_math, i_oini, i_iret, i_zret, i_aret, i_vret, z_fit, List.getElem?_cons_zero, List.getElem?_cons_succ, List.set_cons_zero, List.set_cons_succ, Nat.reduceAdd, Nat.reduceLT, Nat.reduceLeDiff, Nat.reduceEqDiff, Nat.zero_lt_succ, Value.category, true_and, or_true, true_or, and_true, false_implies, true_implies, not_false_eq_true, not_true_eq_false, List.map_cons, List.map_nil, List.sum_cons, List.sum_nil, va_up_eq, bx_uu, va_up_lit, List.length_cons, List.length_nil, List.drop_succ_cons, List.drop_zero, Option.toList_some, Option.toList_none, List.cons_append, List.nil_append]))
    exact hP _ _ ⟨frN.rf, ⟨A, hM⟩, Or.inr ⟨rfl, Or.inr ⟨s, hs, rfl, hd⟩⟩⟩
  (repeat (refine zS_one rfl ?_; simp (disch := (first | decide | assumption | omega)) only [i_push, i_null, i_ild, i_ald, i_ist, i_ast, i_inc, i_bin, i_div, i_un, i_dup, i_pop, i_dup2, i_if, i_icmp, i_nul, i_nnl, i_goto, i_getf, i_putf, i_gets, i_nald, i_nast, i_aald, i_aast, i_alen, i_new, i_newa, i_newq, i_math, i_oini, i_iret, i_zret, i_aret, i_vret, z_fit, List.getElem?_cons_zero, List.getElem?_cons_succ, List.set_cons_zero, List.set_cons_succ, Nat.reduceAdd, Nat.reduceLT, Nat.reduceLeDiff, Nat.reduceEqDiff, Nat.zero_lt_succ, Value.category, true_and, or_true, true_or, and_true, false_implies, true_implies, not_false_eq_true, not_true_eq_false, List.map_cons, List.map_nil, List.sum_cons, List.sum_nil, va_up_eq, bx_uu, va_up_lit, List.length_cons, List.length_nil, List.drop_succ_cons, List.drop_zero, Option.toList_some, Option.toList_none, List.cons_append, List.nil_append, q10]))
  (try refine zS_one rfl ?_)
  refine r_callV (c_workOut sc (d + 1) hM.1 hM.2.2.2.1) rfl rfl rfl rfl hM.1.f (Nat.le_refl _) (Nat.le_refl _) ?_
  rintro r h1 ⟨rfl, hf, K, hW1, hK⟩
  have hM1 := hM.kn hW1
  obtain ⟨y, hy, ey, edy⟩ := (hM.2.2.2.2.2.1 s hs).2.2.1
  have h12 := hM.1.2.2.1
  have o1 := hW1.o
  have a21 := hW1.a 21 1 1200 (by decide) (by decide) rfl rfl
  rw [va_up_eq] at a21
  have a32 := hW1.a 32 0 12 (by decide) (by decide) rfl rfl
  rw [va_up_lit _ _ _ _ (by decide)] at a32
  have w3 : vp_in (nI s) 12 := vp_in_nI (by omega) (by decide)
  have w4 : (nI s).toNatClampNeg = s := nI_clamp (by omega)
  have y3 : vp_in (nI y) 1200 := vp_in_nI (by omega) (by decide)
  have y4 : (nI y).toNatClampNeg = y := nI_clamp (by omega)
  (repeat (refine zS_one rfl ?_; simp (disch := (first | decide | assumption | omega)) only [i_push, i_null, i_ild, i_ald, i_ist, i_ast, i_inc, i_bin, i_div, i_un, i_dup, i_pop, i_dup2, i_if, i_icmp, i_nul, i_nnl, i_goto, i_getf, i_putf, i_gets, i_nald, i_nast, i_aald, i_aast, i_alen, i_new, i_newa, i_newq, i_math, i_oini, i_iret, i_zret, i_aret, i_vret, z_fit, List.getElem?_cons_zero, List.getElem?_cons_succ, List.set_cons_zero, List.set_cons_succ, Nat.reduceAdd, Nat.reduceLT, Nat.reduceLeDiff, Nat.reduceEqDiff, Nat.zero_lt_succ, Value.category, true_and, or_true, true_or, and_true, false_implies, true_implies, not_false_eq_true, not_true_eq_false, List.map_cons, List.map_nil, List.sum_cons, List.sum_nil, va_up_eq, bx_uu, va_up_lit, List.length_cons, List.length_nil, List.drop_succ_cons, List.drop_zero, Option.toList_some, Option.toList_none, List.cons_append, List.nil_append, o1, a21, a32, w3, w4, ey, y3, y4]))
  refine ⟨(hK y hy).1, hP _ _ ⟨hf, ⟨_, hM1⟩, Or.inl ⟨s, y, K, K y, hs, rfl, hd, hy, edy, ⟨A, hM.1.2.2, hK⟩, rfl, ?_⟩⟩⟩
  rcases (hK y hy).1 with z | z
  · exact Or.inr ⟨z, z⟩
  · exact Or.inl ⟨z, by rw [z]; exact q10⟩
/-- what sees answers of the part τ -/
def seeM (n : Nat) (den : Nat → zT) (G : Nat → Int32) (τ : zT) (v : Int32) : Prop := (tkd τ = 1 ∧ v = 1) ∨ (tkd τ = 2 ∧ v = 2) ∨ (∃ c X Y Z x K, τ = nd 8 c 0 X Y Z ∧ x < n ∧ den x = X ∧ KM n den G K ∧ ((¬ K x = 0 ∧ v = 3) ∨ (K x = 0 ∧ v = 4)))
set_option maxHeartbeats 4000000 in
theorem c_Msees (sc : Nat × (Nat → Int32)) (d : Nat) (hM : MO h0 ns n made den G m ps V S A) (hk : ∀ (a b : Nat) τ, a < m → (ps a)[b]? = some τ → tkd τ = 1 ∨ tkd τ = 2 ∨ tkd τ = 8) (i j : Int32) : zMt zTab sc (d + 3) 122 [.ref 15, .int i, .int j] h0 0 0 (fun r h' => frN h0 h' ∧ (∃ A', MO h' ns n made den G m ps V S A') ∧ ((∃ a b τ v, inP m ps i j a b ∧ (ps a)[b]? = some τ ∧ r = some (.int v) ∧ seeM n den G τ v) ∨ (r = some (.int (-1)) ∧ ∀ a b, ¬ inP m ps i j a b))) := by
  have hW := hM.1
  have o := hW.o
  have h12 := hW.2.2.1
  have hT := hW.2.2
  have hm6 := hM.2.2.1.2.1
  have q10 : ¬ (1 : Int32) = 0 := by decide
  refine zM_gen fun P hP => ?_
  refine zM_start (r := r_Mo_sees) (cd := k_Mo_sees) (L0 := [some (.ref 15), some (.int i), some (.int j), none]) rfl rfl rfl rfl rfl ?_
  (repeat (refine zS_one rfl ?_; simp (disch := (first | decide | assumption | omega)) only [i_push, i_null, i_ild, i_ald, i_ist, i_ast, i_inc, i_bin, i_div, i_un, i_dup, i_pop, i_dup2, i_if, i_icmp, i_nul, i_nnl, i_goto, i_getf, i_putf, i_gets, i_nald, i_nast, i_aald, i_aast, i_alen, i_new, i_newa, i_newq, i_math, i_oini, i_iret, i_zret, i_aret, i_vret, z_fit, List.getElem?_cons_zero, List.getElem?_cons_succ, List.set_cons_zero, List.set_cons_succ, Nat.reduceAdd, Nat.reduceLT, Nat.reduceLeDiff, Nat.reduceEqDiff, Nat.zero_lt_succ, Value.category, true_and, or_true, true_or, and_true, false_implies, true_implies, not_false_eq_true, not_true_eq_false, List.map_cons, List.map_nil, List.sum_cons, List.sum_nil, va_up_eq, bx_uu, va_up_lit, List.length_cons, List.length_nil, List.drop_succ_cons, List.drop_zero, Option.toList_some, Option.toList_none, List.cons_append, List.nil_append]))
  (try refine zS_one rfl ?_)
  refine r_callV (c_isPart sc d hM i j) rfl rfl rfl rfl hW.f (Nat.le_refl _) (Nat.le_refl _) ?_
  rintro r h' ⟨rfl, ⟨rfl, a, b, hab⟩ | ⟨rfl, hno⟩⟩
  rotate_left
  · (repeat (refine zS_one rfl ?_; simp (disch := (first | decide | assumption | omega)) only [i_push, i_null, i_ild, i_ald, i_ist, i_ast, i_inc, i_bin, i_div, i_un, i_dup, i_pop, i_dup2, i_if, i_icmp, i_nul, i_nnl, i_goto, i_getf, i_putf, i_gets, i_nald, i_nast, i_aald, i_aast, i_alen, i_new, i_newa, i_newq, i_math, i_oini, i_iret, i_zret, i_aret, i_vret, z_fit, List.getElem?_cons_zero, List.getElem?_cons_succ, List.set_cons_zero, List.set_cons_succ, Nat.reduceAdd, Nat.reduceLT, Nat.reduceLeDiff, Nat.reduceEqDiff, Nat.zero_lt_succ, Value.category, true_and, or_true, true_or, and_true, false_implies, true_implies, not_false_eq_true, not_true_eq_false, List.map_cons, List.map_nil, List.sum_cons, List.sum_nil, va_up_eq, bx_uu, va_up_lit, List.length_cons, List.length_nil, List.drop_succ_cons, List.drop_zero, Option.toList_some, Option.toList_none, List.cons_append, List.nil_append]))
    exact hP _ _ ⟨frN.rf, ⟨A, hM⟩, Or.inr ⟨rfl, hno⟩⟩
  obtain ⟨t, τ, ht, et, ed, hg, hl3⟩ := hM.part hab
  obtain ⟨h1, rfl, rfl, h4⟩ := id hab
  have a23 := hW.a 23 0 180 (by decide) (by decide) rfl rfl
  have a16 := hW.a 16 2 1200 (by decide) (by decide) rfl rfl
  have v1 : vp_in (nI (3 * a + b)) 180 := vp_in_nI (by omega) (by decide)
  have v2 : (nI (3 * a + b)).toNatClampNeg = 3 * a + b := nI_clamp (by omega)
  have t3 : vp_in (nI t) 1200 := vp_in_nI (by omega) (by decide)
  have t4 : (nI t).toNatClampNeg = t := nI_clamp (by omega)
  rcases hk a b τ h1 hg with k1 | k2 | k8
  · have e16 : A 16 t = 1 := (hT.kd ht 1).mpr (by rw [ed]; exact k1)
    have q31 : ¬ (3 : Int32) ≤ 1 := by decide
    (repeat (refine zS_one rfl ?_; simp (disch := (first | decide | assumption | omega)) only [i_push, i_null, i_ild, i_ald, i_ist, i_ast, i_inc, i_bin, i_div, i_un, i_dup, i_pop, i_dup2, i_if, i_icmp, i_nul, i_nnl, i_goto, i_getf, i_putf, i_gets, i_nald, i_nast, i_aald, i_aast, i_alen, i_new, i_newa, i_newq, i_math, i_oini, i_iret, i_zret, i_aret, i_vret, z_fit, List.getElem?_cons_zero, List.getElem?_cons_succ, List.set_cons_zero, List.set_cons_succ, Nat.reduceAdd, Nat.reduceLT, Nat.reduceLeDiff, Nat.reduceEqDiff, Nat.zero_lt_succ, Value.category, true_and, or_true, true_or, and_true, false_implies, true_implies, not_false_eq_true, not_true_eq_false, List.map_cons, List.map_nil, List.sum_cons, List.sum_nil, va_up_eq, bx_uu, va_up_lit, List.length_cons, List.length_nil, List.drop_succ_cons, List.drop_zero, Option.toList_some, Option.toList_none, List.cons_append, List.nil_append, o, a16, a23, nI_3, v1, v2, t3, t4, et, e16, q31, q10]))
    exact hP _ _ ⟨frN.rf, ⟨A, hM⟩, Or.inl ⟨a, b, τ, 1, hab, hg, rfl, Or.inl ⟨k1, rfl⟩⟩⟩
  · have e16 : A 16 t = 2 := (hT.kd ht 2).mpr (by rw [ed]; exact k2)
    have q32 : ¬ (3 : Int32) ≤ 2 := by decide
    (repeat (refine zS_one rfl ?_; simp (disch := (first | decide | assumption | omega)) only [i_push, i_null, i_ild, i_ald, i_ist, i_ast, i_inc, i_bin, i_div, i_un, i_dup, i_pop, i_dup2, i_if, i_icmp, i_nul, i_nnl, i_goto, i_getf, i_putf, i_gets, i_nald, i_nast, i_aald, i_aast, i_alen, i_new, i_newa, i_newq, i_math, i_oini, i_iret, i_zret, i_aret, i_vret, z_fit, List.getElem?_cons_zero, List.getElem?_cons_succ, List.set_cons_zero, List.set_cons_succ, Nat.reduceAdd, Nat.reduceLT, Nat.reduceLeDiff, Nat.reduceEqDiff, Nat.zero_lt_succ, Value.category, true_and, or_true, true_or, and_true, false_implies, true_implies, not_false_eq_true, not_true_eq_false, List.map_cons, List.map_nil, List.sum_cons, List.sum_nil, va_up_eq, bx_uu, va_up_lit, List.length_cons, List.length_nil, List.drop_succ_cons, List.drop_zero, Option.toList_some, Option.toList_none, List.cons_append, List.nil_append, o, a16, a23, nI_3, v1, v2, t3, t4, et, e16, q32, q10]))
    exact hP _ _ ⟨frN.rf, ⟨A, hM⟩, Or.inl ⟨a, b, τ, 2, hab, hg, rfl, Or.inr (Or.inl ⟨k2, rfl⟩)⟩⟩
  · have e16 : A 16 t = 8 := (hT.kd ht 8).mpr (by rw [ed]; exact k8)
    have q38 : (3 : Int32) ≤ 8 := by decide
    obtain ⟨x, y, z, hx, hy, hz, b18, b19, b20, edd⟩ := hT.row8 ht e16
    (repeat (refine zS_one rfl ?_; simp (disch := (first | decide | assumption | omega)) only [i_push, i_null, i_ild, i_ald, i_ist, i_ast, i_inc, i_bin, i_div, i_un, i_dup, i_pop, i_dup2, i_if, i_icmp, i_nul, i_nnl, i_goto, i_getf, i_putf, i_gets, i_nald, i_nast, i_aald, i_aast, i_alen, i_new, i_newa, i_newq, i_math, i_oini, i_iret, i_zret, i_aret, i_vret, z_fit, List.getElem?_cons_zero, List.getElem?_cons_succ, List.set_cons_zero, List.set_cons_succ, Nat.reduceAdd, Nat.reduceLT, Nat.reduceLeDiff, Nat.reduceEqDiff, Nat.zero_lt_succ, Value.category, true_and, or_true, true_or, and_true, false_implies, true_implies, not_false_eq_true, not_true_eq_false, List.map_cons, List.map_nil, List.sum_cons, List.sum_nil, va_up_eq, bx_uu, va_up_lit, List.length_cons, List.length_nil, List.drop_succ_cons, List.drop_zero, Option.toList_some, Option.toList_none, List.cons_append, List.nil_append, o, a16, a23, nI_3, v1, v2, t3, t4, et, e16, q38, q10]))
    (try refine zS_one rfl ?_)
    refine r_callV (c_workOut sc (d + 1) hM.1 hM.2.2.2.1) rfl rfl rfl rfl hM.1.f (Nat.le_refl _) (Nat.le_refl _) ?_
    rintro r h1' ⟨rfl, hf, K, hW1, hK⟩
    have hM1 := hM.kn hW1
    have o1 := hW1.o
    have a21 := hW1.a 21 1 1200 (by decide) (by decide) rfl rfl
    rw [va_up_eq] at a21
    have a18 := hW1.a 18 3 1200 (by decide) (by decide) rfl rfl
    rw [va_up_lit _ _ _ _ (by decide)] at a18
    have x3 : vp_in (nI x) 1200 := vp_in_nI (by omega) (by decide)
    have x4 : (nI x).toNatClampNeg = x := nI_clamp (by omega)
    have fin : ∀ v : Int32, ((¬ K x = 0 ∧ v = 3) ∨ (K x = 0 ∧ v = 4)) → P (some (.int v)) h1' := fun v hv => hP _ _ ⟨hf, ⟨_, hM1⟩, Or.inl ⟨a, b, τ, v, hab, hg, rfl, Or.inr (Or.inr ⟨_, _, _, _, x, K, by rw [← ed]; exact edd, by omega, rfl, ⟨A, hT, hK⟩, hv⟩)⟩⟩
    by_cases f1 : K x = 0
    · (repeat (refine zS_one rfl ?_; simp (disch := (first | decide | assumption | omega)) only [i_push, i_null, i_ild, i_ald, i_ist, i_ast, i_inc, i_bin, i_div, i_un, i_dup, i_pop, i_dup2, i_if, i_icmp, i_nul, i_nnl, i_goto, i_getf, i_putf, i_gets, i_nald, i_nast, i_aald, i_aast, i_alen, i_new, i_newa, i_newq, i_math, i_oini, i_iret, i_zret, i_aret, i_vret, z_fit, List.getElem?_cons_zero, List.getElem?_cons_succ, List.set_cons_zero, List.set_cons_succ, Nat.reduceAdd, Nat.reduceLT, Nat.reduceLeDiff, Nat.reduceEqDiff, Nat.zero_lt_succ, Value.category, true_and, or_true, true_or, and_true, false_implies, true_implies, not_false_eq_true, not_true_eq_false, List.map_cons, List.map_nil, List.sum_cons, List.sum_nil, va_up_eq, bx_uu, va_up_lit, List.length_cons, List.length_nil, List.drop_succ_cons, List.drop_zero, Option.toList_some, Option.toList_none, List.cons_append, List.nil_append, o1, a21, a18, t3, t4, b18, x3, x4, f1]))
      exact fin 4 (Or.inr ⟨f1, rfl⟩)
    · (repeat (refine zS_one rfl ?_; simp (disch := (first | decide | assumption | omega)) only [i_push, i_null, i_ild, i_ald, i_ist, i_ast, i_inc, i_bin, i_div, i_un, i_dup, i_pop, i_dup2, i_if, i_icmp, i_nul, i_nnl, i_goto, i_getf, i_putf, i_gets, i_nald, i_nast, i_aald, i_aast, i_alen, i_new, i_newa, i_newq, i_math, i_oini, i_iret, i_zret, i_aret, i_vret, z_fit, List.getElem?_cons_zero, List.getElem?_cons_succ, List.set_cons_zero, List.set_cons_succ, Nat.reduceAdd, Nat.reduceLT, Nat.reduceLeDiff, Nat.reduceEqDiff, Nat.zero_lt_succ, Value.category, true_and, or_true, true_or, and_true, false_implies, true_implies, not_false_eq_true, not_true_eq_false, List.map_cons, List.map_nil, List.sum_cons, List.sum_nil, va_up_eq, bx_uu, va_up_lit, List.length_cons, List.length_nil, List.drop_succ_cons, List.drop_zero, Option.toList_some, Option.toList_none, List.cons_append, List.nil_append, o1, a21, a18, t3, t4, b18, x3, x4, f1]))
      exact fin 3 (Or.inl ⟨f1, rfl⟩)
def shoM (n : Nat) (den : Nat → zT) (G : Nat → Int32) (τ : zT) (v : Int32) : Prop := ((tkd τ = 1 ∨ tkd τ = 2) ∧ v = tv τ) ∨ (∃ c X Y Z x K, τ = nd 8 c 0 X Y Z ∧ x < n ∧ den x = X ∧ KM n den G K ∧ ((¬ K x = 0 ∧ v = tv Z) ∨ (K x = 0 ∧ v = 0)))
set_option maxHeartbeats 8000000 in
theorem c_Mshown (sc : Nat × (Nat → Int32)) (d : Nat) (hM : MO h0 ns n made den G m ps V S A) (hk : ∀ (a b : Nat) τ, a < m → (ps a)[b]? = some τ → tkd τ = 1 ∨ tkd τ = 2 ∨ tkd τ = 8) (hz : ∀ (a b : Nat) c X Y Z, a < m → (ps a)[b]? = some (nd 8 c 0 X Y Z) → tkd Z = 1 ∨ tkd Z = 2) (i j : Int32) : zMt zTab sc (d + 4) 123 [.ref 15, .int i, .int j] h0 0 0 (fun r h' => frN h0 h' ∧ (∃ A', MO h' ns n made den G m ps V S A') ∧ ((∃ a b τ v, inP m ps i j a b ∧ (ps a)[b]? = some τ ∧ r = some (.int v) ∧ shoM n den G τ v) ∨ (r = some (.int 0) ∧ ∀ a b, ¬ inP m ps i j a b))) := by
  have hm6 := hM.2.2.1.2.1
  have q10 : ¬ (1 : Int32) = 0 := by decide
  refine zM_gen fun P hP => ?_
  refine zM_start (r := r_Mo_shown) (cd := k_Mo_shown) (L0 := [some (.ref 15), some (.int i), some (.int j), none, none, none]) rfl rfl rfl rfl rfl ?_
  (repeat (refine zS_one rfl ?_; simp (disch := (first | decide | assumption | omega)) only [i_push, i_null, i_ild, i_ald, i_ist, i_ast, i_inc, i_bin, i_div, i_un, i_dup, i_pop, i_dup2, i_if, i_icmp, i_nul, i_nnl, i_goto, i_getf, i_putf, i_gets, i_nald, i_nast, i_aald, i_aast, i_alen, i_new, i_newa, i_newq, i_math, i_oini, i_iret, i_zret, i_aret, i_vret, z_fit, List.getElem?_cons_zero, List.getElem?_cons_succ, List.set_cons_zero, List.set_cons_succ, Nat.reduceAdd, Nat.reduceLT, Nat.reduceLeDiff, Nat.reduceEqDiff, Nat.zero_lt_succ, Value.category, true_and, or_true, true_or, and_true, false_implies, true_implies, not_false_eq_true, not_true_eq_false, List.map_cons, List.map_nil, List.sum_cons, List.sum_nil, va_up_eq, bx_uu, va_up_lit, List.length_cons, List.length_nil, List.drop_succ_cons, List.drop_zero, Option.toList_some, Option.toList_none, List.cons_append, List.nil_append]))
  (try refine zS_one rfl ?_)
  refine r_callV (c_Msees sc d hM hk i j) rfl rfl rfl rfl hM.1.f (Nat.le_refl _) (Nat.le_refl _) ?_
  rintro r h1 ⟨hf, ⟨A', hM1⟩, ⟨a, b, τ, v, hab, hg, rfl, hs⟩ | ⟨rfl, hno⟩⟩
  rotate_left
  · have q : (-1 : Int32) < 0 := by decide
    (repeat (refine zS_one rfl ?_; simp (disch := (first | decide | assumption | omega)) only [i_push, i_null, i_ild, i_ald, i_ist, i_ast, i_inc, i_bin, i_div, i_un, i_dup, i_pop, i_dup2, i_if, i_icmp, i_nul, i_nnl, i_goto, i_getf, i_putf, i_gets, i_nald, i_nast, i_aald, i_aast, i_alen, i_new, i_newa, i_newq, i_math, i_oini, i_iret, i_zret, i_aret, i_vret, z_fit, List.getElem?_cons_zero, List.getElem?_cons_succ, List.set_cons_zero, List.set_cons_succ, Nat.reduceAdd, Nat.reduceLT, Nat.reduceLeDiff, Nat.reduceEqDiff, Nat.zero_lt_succ, Value.category, true_and, or_true, true_or, and_true, false_implies, true_implies, not_false_eq_true, not_true_eq_false, List.map_cons, List.map_nil, List.sum_cons, List.sum_nil, va_up_eq, bx_uu, va_up_lit, List.length_cons, List.length_nil, List.drop_succ_cons, List.drop_zero, Option.toList_some, Option.toList_none, List.cons_append, List.nil_append, q]))
    exact hP _ _ ⟨hf, ⟨A', hM1⟩, Or.inr ⟨rfl, hno⟩⟩
  have hW := hM1.1
  have o := hW.o
  have h12 := hW.2.2.1
  have hT := hW.2.2
  obtain ⟨t, τ', ht, et, ed, hg', hl3⟩ := hM1.part hab
  cases hg.symm.trans hg'
  obtain ⟨g1, rfl, rfl, g4⟩ := id hab
  have a23 := hW.a 23 0 180 (by decide) (by decide) rfl rfl
  have a17 := hW.a 17 0 1200 (by decide) (by decide) rfl rfl
  have a20 := hW.a 20 3 1200 (by decide) (by decide) rfl rfl
  have v1 : vp_in (nI (3 * a + b)) 180 := vp_in_nI (by omega) (by decide)
  have v2 : (nI (3 * a + b)).toNatClampNeg = 3 * a + b := nI_clamp (by omega)
  have t3 : vp_in (nI t) 1200 := vp_in_nI (by omega) (by decide)
  have t4 : (nI t).toNatClampNeg = t := nI_clamp (by omega)
  have fin : ∀ v : Int32, shoM n den G τ v → P (some (.int v)) h1 := fun v hv => hP _ _ ⟨hf, ⟨A', hM1⟩, Or.inl ⟨a, b, τ, v, hab, hg, rfl, hv⟩⟩
  have p1 : ¬ (1 : Int32) < 0 := by decide
  have p2 : ¬ (1 : Int32) = 4 := by decide
  have p3 : ¬ (1 : Int32) = 3 := by decide
  have p4 : ¬ (2 : Int32) < 0 := by decide
  have p5 : ¬ (2 : Int32) = 4 := by decide
  have p6 : ¬ (2 : Int32) = 3 := by decide
  have p7 : ¬ (3 : Int32) < 0 := by decide
  have p8 : ¬ (3 : Int32) = 4 := by decide
  have p9 : ¬ (4 : Int32) < 0 := by decide
  rcases hs with ⟨k1, rfl⟩ | ⟨k2, rfl⟩ | ⟨c, X, Y, Z, x, K, e8, hx, ex, hK, hs⟩
  · have e17 : A' 17 t = tv τ := by rw [← ed]; exact hT.vl ht (Or.inl (by rw [ed]; exact k1))
    (repeat (refine zS_one rfl ?_; simp (disch := (first | decide | assumption | omega)) only [i_push, i_null, i_ild, i_ald, i_ist, i_ast, i_inc, i_bin, i_div, i_un, i_dup, i_pop, i_dup2, i_if, i_icmp, i_nul, i_nnl, i_goto, i_getf, i_putf, i_gets, i_nald, i_nast, i_aald, i_aast, i_alen, i_new, i_newa, i_newq, i_math, i_oini, i_iret, i_zret, i_aret, i_vret, z_fit, List.getElem?_cons_zero, List.getElem?_cons_succ, List.set_cons_zero, List.set_cons_succ, Nat.reduceAdd, Nat.reduceLT, Nat.reduceLeDiff, Nat.reduceEqDiff, Nat.zero_lt_succ, Value.category, true_and, or_true, true_or, and_true, false_implies, true_implies, not_false_eq_true, not_true_eq_false, List.map_cons, List.map_nil, List.sum_cons, List.sum_nil, va_up_eq, bx_uu, va_up_lit, List.length_cons, List.length_nil, List.drop_succ_cons, List.drop_zero, Option.toList_some, Option.toList_none, List.cons_append, List.nil_append, o, a17, a20, a23, nI_3, v1, v2, t3, t4, et, e17, p1, p2, p3]))
    exact fin _ (Or.inl ⟨Or.inl k1, rfl⟩)
  · have e17 : A' 17 t = tv τ := by rw [← ed]; exact hT.vl ht (Or.inr (by rw [ed]; exact k2))
    (repeat (refine zS_one rfl ?_; simp (disch := (first | decide | assumption | omega)) only [i_push, i_null, i_ild, i_ald, i_ist, i_ast, i_inc, i_bin, i_div, i_un, i_dup, i_pop, i_dup2, i_if, i_icmp, i_nul, i_nnl, i_goto, i_getf, i_putf, i_gets, i_nald, i_nast, i_aald, i_aast, i_alen, i_new, i_newa, i_newq, i_math, i_oini, i_iret, i_zret, i_aret, i_vret, z_fit, List.getElem?_cons_zero, List.getElem?_cons_succ, List.set_cons_zero, List.set_cons_succ, Nat.reduceAdd, Nat.reduceLT, Nat.reduceLeDiff, Nat.reduceEqDiff, Nat.zero_lt_succ, Value.category, true_and, or_true, true_or, and_true, false_implies, true_implies, not_false_eq_true, not_true_eq_false, List.map_cons, List.map_nil, List.sum_cons, List.sum_nil, va_up_eq, bx_uu, va_up_lit, List.length_cons, List.length_nil, List.drop_succ_cons, List.drop_zero, Option.toList_some, Option.toList_none, List.cons_append, List.nil_append, o, a17, a20, a23, nI_3, v1, v2, t3, t4, et, e17, p4, p5, p6]))
    exact fin _ (Or.inl ⟨Or.inr k2, rfl⟩)
  · rcases hs with ⟨f1, rfl⟩ | ⟨f1, rfl⟩
    · have e16 : A' 16 t = 8 := (hT.kd ht 8).mpr (by rw [ed, e8]; rfl)
      obtain ⟨x', y', z', hx', hy', hz', b18, b19, b20, edd⟩ := hT.row8 ht e16
      have e9 := nd_inj (edd.symm.trans (ed.trans e8))
      have z3 : vp_in (nI z') 1200 := vp_in_nI (by omega) (by decide)
      have z4 : (nI z').toNatClampNeg = z' := nI_clamp (by omega)
      have kz := hz a b c X Y Z g1 (by rw [← e8]; exact hg)
      have e17 : A' 17 z' = tv Z := by rw [← e9.2.2.2.2.2]; exact hT.vl (by omega) (by rw [e9.2.2.2.2.2]; exact kz)
      (repeat (refine zS_one rfl ?_; simp (disch := (first | decide | assumption | omega)) only [i_push, i_null, i_ild, i_ald, i_ist, i_ast, i_inc, i_bin, i_div, i_un, i_dup, i_pop, i_dup2, i_if, i_icmp, i_nul, i_nnl, i_goto, i_getf, i_putf, i_gets, i_nald, i_nast, i_aald, i_aast, i_alen, i_new, i_newa, i_newq, i_math, i_oini, i_iret, i_zret, i_aret, i_vret, z_fit, List.getElem?_cons_zero, List.getElem?_cons_succ, List.set_cons_zero, List.set_cons_succ, Nat.reduceAdd, Nat.reduceLT, Nat.reduceLeDiff, Nat.reduceEqDiff, Nat.zero_lt_succ, Value.category, true_and, or_true, true_or, and_true, false_implies, true_implies, not_false_eq_true, not_true_eq_false, List.map_cons, List.map_nil, List.sum_cons, List.sum_nil, va_up_eq, bx_uu, va_up_lit, List.length_cons, List.length_nil, List.drop_succ_cons, List.drop_zero, Option.toList_some, Option.toList_none, List.cons_append, List.nil_append, o, a17, a20, a23, nI_3, v1, v2, t3, t4, et, b20, z3, z4, e17, p7, p8]))
      exact fin _ (Or.inr ⟨c, X, Y, Z, x, K, e8, hx, ex, hK, Or.inl ⟨f1, rfl⟩⟩)
    · (repeat (refine zS_one rfl ?_; simp (disch := (first | decide | assumption | omega)) only [i_push, i_null, i_ild, i_ald, i_ist, i_ast, i_inc, i_bin, i_div, i_un, i_dup, i_pop, i_dup2, i_if, i_icmp, i_nul, i_nnl, i_goto, i_getf, i_putf, i_gets, i_nald, i_nast, i_aald, i_aast, i_alen, i_new, i_newa, i_newq, i_math, i_oini, i_iret, i_zret, i_aret, i_vret, z_fit, List.getElem?_cons_zero, List.getElem?_cons_succ, List.set_cons_zero, List.set_cons_succ, Nat.reduceAdd, Nat.reduceLT, Nat.reduceLeDiff, Nat.reduceEqDiff, Nat.zero_lt_succ, Value.category, true_and, or_true, true_or, and_true, false_implies, true_implies, not_false_eq_true, not_true_eq_false, List.map_cons, List.map_nil, List.sum_cons, List.sum_nil, va_up_eq, bx_uu, va_up_lit, List.length_cons, List.length_nil, List.drop_succ_cons, List.drop_zero, Option.toList_some, Option.toList_none, List.cons_append, List.nil_append, p9]))
      exact fin _ (Or.inr ⟨c, X, Y, Z, x, K, e8, hx, ex, hK, Or.inr ⟨f1, rfl⟩⟩)
end MOX
