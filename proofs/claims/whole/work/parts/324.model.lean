section MON
variable {h0 : zH} {S : Nat → Int32} {A : Nat → Nat → Int32} {ns n made m : Nat} {den : Nat → zT} {G : Nat → Int32} {ps : Nat → List zT} {V : Nat → zV}
set_option maxHeartbeats 4000000 in
theorem c_Mgive (sc : Nat × (Nat → Int32)) (d : Nat) (hM : MO h0 ns n made den G m ps V S A) (key : Int32) : zMt zTab sc (d + 2) 112 [.ref 15, .int key] h0 0 0 (fun r h' => (r = some (.int 0) ∧ h' = h0 ∧ ∀ p, 1 ≤ p → p ≤ 8 + made → key = nI p → ¬ G p = 0) ∨ (∃ p A', 1 ≤ p ∧ p ≤ 8 + made ∧ key = nI p ∧ G p = 0 ∧ r = some (.int 1) ∧ MO h' ns n made den (upd G p 1) m ps V S A' ∧ frN h0 h')) := by
  have hW := hM.1
  have o := hW.o
  rw [hM.2.1.2.1] at o
  have hmd := hM.2.2.1.2.2
  have a24 := hW.a 24 1 40 (by decide) (by decide) rfl rfl
  have q10 : ¬ (1 : Int32) = 0 := by decide
  refine zM_gen fun P hP => ?_
  refine zM_start (r := r_Mo_give) (cd := k_Mo_give) (L0 := [some (.ref 15), some (.int key)]) rfl rfl rfl rfl rfl ?_
  (repeat (refine zS_one rfl ?_; simp (disch := (first | decide | assumption | omega)) only [i_push, i_null, i_ild, i_ald, i_ist, i_ast, i_inc, i_bin, i_div, i_un, i_dup, i_pop, i_dup2, i_if, i_icmp, i_nul, i_nnl, i_goto, i_getf, i_putf, i_gets, i_nald, i_nast, i_aald, i_aast, i_alen, i_new, i_newa, i_newq, i_math, i_oini, i_iret, i_zret, i_aret, i_vret, z_fit, List.getElem?_cons_zero, List.getElem?_cons_succ, List.set_cons_zero, List.set_cons_succ, Nat.reduceAdd, Nat.reduceLT, Nat.reduceLeDiff, Nat.reduceEqDiff, Nat.zero_lt_succ, Value.category, true_and, or_true, true_or, and_true, false_implies, true_implies, not_false_eq_true, not_true_eq_false, List.map_cons, List.map_nil, List.sum_cons, List.sum_nil, va_up_eq, bx_uu, va_up_lit, List.length_cons, List.length_nil, List.drop_succ_cons, List.drop_zero, Option.toList_some, Option.toList_none, List.cons_append, List.nil_append, o, nI_8]))
  (try refine zS_one rfl ?_)
  refine r_callS (c_within sc d _ key 1 (nI (8 + made))) rfl rfl rfl rfl (Nat.le_refl _) (Nat.le_refl _) ?_
  rintro r h' ⟨rfl, ⟨rfl, h1, h2⟩ | ⟨rfl, h1⟩⟩
  rotate_left
  · (repeat (refine zS_one rfl ?_; simp (disch := (first | decide | assumption | omega)) only [i_push, i_null, i_ild, i_ald, i_ist, i_ast, i_inc, i_bin, i_div, i_un, i_dup, i_pop, i_dup2, i_if, i_icmp, i_nul, i_nnl, i_goto, i_getf, i_putf, i_gets, i_nald, i_nast, i_aald, i_aast, i_alen, i_new, i_newa, i_newq, i_math, i_oini, i_iret, i_zret, i_aret, i_vret, z_fit, List.getElem?_cons_zero, List.getElem?_cons_succ, List.set_cons_zero, List.set_cons_succ, Nat.reduceAdd, Nat.reduceLT, Nat.reduceLeDiff, Nat.reduceEqDiff, Nat.zero_lt_succ, Value.category, true_and, or_true, true_or, and_true, false_implies, true_implies, not_false_eq_true, not_true_eq_false, List.map_cons, List.map_nil, List.sum_cons, List.sum_nil, va_up_eq, bx_uu, va_up_lit, List.length_cons, List.length_nil, List.drop_succ_cons, List.drop_zero, Option.toList_some, Option.toList_none, List.cons_append, List.nil_append]))
    refine hP _ _ (Or.inl ⟨rfl, rfl, fun p z1 z2 z3 => ?_⟩)
    subst z3
    exfalso
    rcases h1 with h1 | h1
    · exact nI_ge (a := 0) (b := p) (by omega) (by omega) (by rw [Int32.le_iff_toInt_le, nI_toInt (by omega), nI_toInt (by decide)]; rw [Int32.lt_iff_toInt_lt, nI_toInt (by omega), show (1 : Int32).toInt = 1 by decide] at h1; omega)
    · exact absurd ((nI_ltI (by omega) (by omega)).mp h1) (by omega)
  have h0' : ¬ key < 0 := by
    intro z
    apply h1
    rw [Int32.lt_iff_toInt_lt] at z ⊢
    have e0 : (0 : Int32).toInt = 0 := by decide
    have e1 : (1 : Int32).toInt = 1 := by decide
    omega
  obtain ⟨p, hp, rfl⟩ := nI_of h0'
  have hp1 : 1 ≤ p := by
    by_cases z : p = 0
    · subst z; exact absurd (by decide) h1
    · omega
  have hp2 : p ≤ 8 + made := by
    by_cases z : p ≤ 8 + made
    · exact z
    · exact absurd ((nI_ltI (by omega) hp).mpr (by omega)) h2
  have w3 : vp_in (nI p) 40 := vp_in_nI (by omega) (by decide)
  have w4 : (nI p).toNatClampNeg = p := nI_clamp (by omega)
  have e24 := hM.2.2.2.1 p (by omega)
  by_cases z : G p = 0
  · have e1 : (1 : Int32) &&& 1 = 1 := by decide
    (repeat (refine zS_one rfl ?_; simp (disch := (first | decide | assumption | omega)) only [i_push, i_null, i_ild, i_ald, i_ist, i_ast, i_inc, i_bin, i_div, i_un, i_dup, i_pop, i_dup2, i_if, i_icmp, i_nul, i_nnl, i_goto, i_getf, i_putf, i_gets, i_nald, i_nast, i_aald, i_aast, i_alen, i_new, i_newa, i_newq, i_math, i_oini, i_iret, i_zret, i_aret, i_vret, z_fit, List.getElem?_cons_zero, List.getElem?_cons_succ, List.set_cons_zero, List.set_cons_succ, Nat.reduceAdd, Nat.reduceLT, Nat.reduceLeDiff, Nat.reduceEqDiff, Nat.zero_lt_succ, Value.category, true_and, or_true, true_or, and_true, false_implies, true_implies, not_false_eq_true, not_true_eq_false, List.map_cons, List.map_nil, List.sum_cons, List.sum_nil, va_up_eq, bx_uu, va_up_lit, List.length_cons, List.length_nil, List.drop_succ_cons, List.drop_zero, Option.toList_some, Option.toList_none, List.cons_append, List.nil_append, o, a24, w3, w4, e24, z, q10, e1]))
    have hW2 := hW.put 24 (upd (A 24) p 1) (kd := 1) (ln := 40) (by decide) (by decide) rfl rfl
    refine hP _ _ (Or.inr ⟨p, _, hp1, hp2, rfl, z, rfl, ⟨hW2, hM.2.1, hM.2.2.1, fun j hj => ?_, fun i hi => ?_, fun s hs => ?_, fun q t z1 z2 z3 z4 => ?_⟩, frN.put (by decide) (by decide)⟩)
    · rw [va_up_eq]
      by_cases y : j = p
      · subst y; rw [upd_s, upd_s]
      · rw [upd_n y, upd_n y]; exact hM.2.2.2.1 j hj
    · obtain ⟨r1, r2, r3⟩ := hM.2.2.2.2.1 i hi
      exact ⟨by rw [va_up_lit _ _ _ _ (by decide)]; exact r1, r2, by rw [va_up_lit _ _ _ _ (by decide)]; exact r3⟩
    · exact (hM.2.2.2.2.2.1 s hs).ext (c := 0) exM.rf (fun q z1 z2 => by rw [va_up_lit _ _ _ _ (by omega)])
    · rw [va_up_lit _ _ _ _ (by omega)]
      exact hM.2.2.2.2.2.2 q t z1 z2 z3 z4
  · (repeat (refine zS_one rfl ?_; simp (disch := (first | decide | assumption | omega)) only [i_push, i_null, i_ild, i_ald, i_ist, i_ast, i_inc, i_bin, i_div, i_un, i_dup, i_pop, i_dup2, i_if, i_icmp, i_nul, i_nnl, i_goto, i_getf, i_putf, i_gets, i_nald, i_nast, i_aald, i_aast, i_alen, i_new, i_newa, i_newq, i_math, i_oini, i_iret, i_zret, i_aret, i_vret, z_fit, List.getElem?_cons_zero, List.getElem?_cons_succ, List.set_cons_zero, List.set_cons_succ, Nat.reduceAdd, Nat.reduceLT, Nat.reduceLeDiff, Nat.reduceEqDiff, Nat.zero_lt_succ, Value.category, true_and, or_true, true_or, and_true, false_implies, true_implies, not_false_eq_true, not_true_eq_false, List.map_cons, List.map_nil, List.sum_cons, List.sum_nil, va_up_eq, bx_uu, va_up_lit, List.length_cons, List.length_nil, List.drop_succ_cons, List.drop_zero, Option.toList_some, Option.toList_none, List.cons_append, List.nil_append, o, a24, w3, w4, e24, z, q10]))
    refine hP _ _ (Or.inl ⟨rfl, rfl, fun p' z1 z2 z3 => ?_⟩)
    have := nI_inj (by omega) (by omega) z3
    subst this
    exact z
end MON
