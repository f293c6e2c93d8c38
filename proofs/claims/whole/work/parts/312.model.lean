def mrow (A : Nat → Nat → Int32) (n : Nat) (den : Nat → zT) (i : Nat) (l : List zT) : Prop := A 22 i = nI l.length ∧ l.length ≤ 3 ∧ ∀ j τ, l[j]? = some τ → ∃ t, t < n ∧ A 23 (3 * i + j) = nI t ∧ den t = τ
/-- the reference's whole state -/
def MO (h : zH) (ns n made : Nat) (den : Nat → zT) (G : Nat → Int32) (m : Nat) (ps : Nat → List zT) (V : Nat → zV) (S : Nat → Int32) (A : Nat → Nat → Int32) : Prop :=
  MW h S A n den ∧ (S 1 = nI m ∧ S 2 = nI made ∧ S 3 = nI ns) ∧ (ns ≤ 12 ∧ m ≤ 60 ∧ made ≤ 12) ∧ (∀ j, j ≤ 20 → A 24 j = G j) ∧ (∀ i, i < m → mrow A n den i (ps i)) ∧ (∀ s, s < ns → sV A s n den (V s)) ∧ ∀ p s, 25 ≤ p → p ≤ 42 → ns ≤ s → s < 12 → A p s = 0
theorem in_rng {i : Int32} {k : Nat} (hk : k < 2 ^ 30) : (¬ i < 0 ∧ ¬ nI k - 1 < i ∧ ∃ s, s < k ∧ i = nI s) ∨ ((i < 0 ∨ nI k - 1 < i) ∧ ∀ s, s < k → i ≠ nI s) := by
  have e1 : (nI k - 1).toInt = (k : Int) - 1 := pk_sub_toInt (b := 1) hk (by decide)
  have e0 : (0 : Int32).toInt = 0 := by decide
  by_cases h0 : i < 0
  · refine Or.inr ⟨Or.inl h0, fun s hs e => ?_⟩
    subst e
    exact nI_pos (by omega) h0
  · obtain ⟨j, hj, rfl⟩ := nI_of h0
    by_cases hjk : j < k
    · refine Or.inl ⟨h0, ?_, j, hjk, rfl⟩
      rw [Int32.lt_iff_toInt_lt, e1, nI_toInt hj]
      omega
    · refine Or.inr ⟨Or.inr ?_, fun s hs e => ?_⟩
      · rw [Int32.lt_iff_toInt_lt, e1, nI_toInt hj]
        omega
      · have := nI_inj hj (by omega) e
        omega
section MOC
variable {h0 : zH} {S : Nat → Int32} {A : Nat → Nat → Int32} {ns n made m : Nat} {den : Nat → zT} {G : Nat → Int32} {ps : Nat → List zT} {V : Nat → zV}
theorem c_isSession (sc : Nat × (Nat → Int32)) (d : Nat) (hM : MO h0 ns n made den G m ps V S A) (i : Int32) : zMt zTab sc (d + 2) 97 [.ref 15, .int i] h0 0 0 (fun r h' => h' = h0 ∧ ((r = some (.int 1) ∧ ∃ s, s < ns ∧ i = nI s) ∨ (r = some (.int 0) ∧ ∀ s, s < ns → i ≠ nI s))) := by
  have o := hM.1.o
  have hn := hM.2.2.1.1
  rw [hM.2.1.2.2] at o
  refine zM_gen fun P hP => ?_
  refine zM_start (r := r_Mo_isSession) (cd := k_Mo_isSession) (L0 := [some (.ref 15), some (.int i)]) rfl rfl rfl rfl rfl ?_
  (repeat (refine zS_one rfl ?_; simp (disch := (first | decide | assumption | omega)) only [i_push, i_null, i_ild, i_ald, i_ist, i_ast, i_inc, i_bin, i_div, i_un, i_dup, i_pop, i_dup2, i_if, i_icmp, i_nul, i_nnl, i_goto, i_getf, i_putf, i_gets, i_nald, i_nast, i_aald, i_aast, i_alen, i_new, i_newa, i_newq, i_math, i_oini, i_iret, i_zret, i_aret, i_vret, z_fit, List.getElem?_cons_zero, List.getElem?_cons_succ, List.set_cons_zero, List.set_cons_succ, Nat.reduceAdd, Nat.reduceLT, Nat.reduceLeDiff, Nat.reduceEqDiff, Nat.zero_lt_succ, Value.category, true_and, or_true, true_or, and_true, false_implies, true_implies, not_false_eq_true, not_true_eq_false, List.map_cons, List.map_nil, List.sum_cons, List.sum_nil, va_up_eq, bx_uu, va_up_lit, List.length_cons, List.length_nil, List.drop_succ_cons, List.drop_zero, Option.toList_some, Option.toList_none, List.cons_append, List.nil_append, o]))
  (try refine zS_one rfl ?_)
  refine r_callS (c_within sc d _ i 0 (nI ns - 1)) rfl rfl rfl rfl (Nat.le_refl _) (Nat.le_refl _) ?_
  rintro r h' ⟨rfl, ⟨rfl, h1, h2⟩ | ⟨rfl, h1⟩⟩
  · (repeat (refine zS_one rfl ?_; simp (disch := (first | decide | assumption | omega)) only [i_push, i_null, i_ild, i_ald, i_ist, i_ast, i_inc, i_bin, i_div, i_un, i_dup, i_pop, i_dup2, i_if, i_icmp, i_nul, i_nnl, i_goto, i_getf, i_putf, i_gets, i_nald, i_nast, i_aald, i_aast, i_alen, i_new, i_newa, i_newq, i_math, i_oini, i_iret, i_zret, i_aret, i_vret, z_fit, List.getElem?_cons_zero, List.getElem?_cons_succ, List.set_cons_zero, List.set_cons_succ, Nat.reduceAdd, Nat.reduceLT, Nat.reduceLeDiff, Nat.reduceEqDiff, Nat.zero_lt_succ, Value.category, true_and, or_true, true_or, and_true, false_implies, true_implies, not_false_eq_true, not_true_eq_false, List.map_cons, List.map_nil, List.sum_cons, List.sum_nil, va_up_eq, bx_uu, va_up_lit, List.length_cons, List.length_nil, List.drop_succ_cons, List.drop_zero, Option.toList_some, Option.toList_none, List.cons_append, List.nil_append]))
    refine hP _ _ ⟨rfl, Or.inl ⟨rfl, ?_⟩⟩
    rcases in_rng (i := i) (k := ns) (by omega) with ⟨-, -, h⟩ | ⟨h, -⟩
    · exact h
    · rcases h with h | h
      · exact absurd h h1
      · exact absurd h h2
  · (repeat (refine zS_one rfl ?_; simp (disch := (first | decide | assumption | omega)) only [i_push, i_null, i_ild, i_ald, i_ist, i_ast, i_inc, i_bin, i_div, i_un, i_dup, i_pop, i_dup2, i_if, i_icmp, i_nul, i_nnl, i_goto, i_getf, i_putf, i_gets, i_nald, i_nast, i_aald, i_aast, i_alen, i_new, i_newa, i_newq, i_math, i_oini, i_iret, i_zret, i_aret, i_vret, z_fit, List.getElem?_cons_zero, List.getElem?_cons_succ, List.set_cons_zero, List.set_cons_succ, Nat.reduceAdd, Nat.reduceLT, Nat.reduceLeDiff, Nat.reduceEqDiff, Nat.zero_lt_succ, Value.category, true_and, or_true, true_or, and_true, false_implies, true_implies, not_false_eq_true, not_true_eq_false, List.map_cons, List.map_nil, List.sum_cons, List.sum_nil, va_up_eq, bx_uu, va_up_lit, List.length_cons, List.length_nil, List.drop_succ_cons, List.drop_zero, Option.toList_some, Option.toList_none, List.cons_append, List.nil_append]))
    refine hP _ _ ⟨rfl, Or.inr ⟨rfl, ?_⟩⟩
    rcases in_rng (i := i) (k := ns) (by omega) with ⟨g1, g2, -⟩ | ⟨-, h⟩
    · rcases h1 with h | h
      · exact absurd h g1
      · exact absurd h g2
    · exact h
theorem lim_eq {I : Nat → Int32} (hi : iOK I) (hst : ¬ lim I < I 7) : I 7 = lim I ↔ ¬ I 7 < lim I := by
  obtain ⟨⟨p, hp, e0⟩, -, -, -, -, -, ⟨s, hs, e7⟩⟩ := hi
  unfold lim at hst ⊢
  rw [e0, e7] at hst
  rw [e0, e7]
  rcases (show p = 0 ∨ p = 1 by omega) with rfl | rfl <;> rcases (show s = 0 ∨ s = 1 ∨ s = 2 ∨ s = 3 by omega) with rfl | rfl | rfl | rfl <;> first | decide | exact absurd (by decide) hst
theorem c_MisDone (sc : Nat × (Nat → Int32)) (d : Nat) (hM : MO h0 ns n made den G m ps V S A) {s : Nat} (hs : s < ns) (hst : ¬ lim (V s).1 < (V s).1 7) : zMt zTab sc (d + 2) 98 [.ref 15, .int (nI s)] h0 0 0 (fun r h' => h' = h0 ∧ ((r = some (.int 1) ∧ ¬ (V s).1 7 < lim (V s).1) ∨ (r = some (.int 0) ∧ (V s).1 7 < lim (V s).1))) := by
  have o := hM.1.o
  have hn := hM.2.2.1.1
  have a25 := hM.1.a 25 0 12 (by decide) (by decide) rfl rfl
  have a35 := hM.1.a 35 0 12 (by decide) (by decide) rfl rfl
  have w3 : vp_in (nI s) 12 := vp_in_nI (by omega) (by decide)
  have w4 : (nI s).toNatClampNeg = s := nI_clamp (by omega)
  obtain ⟨⟨e25, -⟩, -, -, -, ⟨-, e35, -⟩, -, hI, -⟩ := hM.2.2.2.2.2.1 s hs
  refine zM_gen fun P hP => ?_
  refine zM_start (r := r_Mo_isDone) (cd := k_Mo_isDone) (L0 := [some (.ref 15), some (.int (nI s))]) rfl rfl rfl rfl rfl ?_
  (repeat (refine zS_one rfl ?_; simp (disch := (first | decide | assumption | omega)) only [i_push, i_null, i_ild, i_ald, i_ist, i_ast, i_inc, i_bin, i_div, i_un, i_dup, i_pop, i_dup2, i_if, i_icmp, i_nul, i_nnl, i_goto, i_getf, i_putf, i_gets, i_nald, i_nast, i_aald, i_aast, i_alen, i_new, i_newa, i_newq, i_math, i_oini, i_iret, i_zret, i_aret, i_vret, z_fit, List.getElem?_cons_zero, List.getElem?_cons_succ, List.set_cons_zero, List.set_cons_succ, Nat.reduceAdd, Nat.reduceLT, Nat.reduceLeDiff, Nat.reduceEqDiff, Nat.zero_lt_succ, Value.category, true_and, or_true, true_or, and_true, false_implies, true_implies, not_false_eq_true, not_true_eq_false, List.map_cons, List.map_nil, List.sum_cons, List.sum_nil, va_up_eq, bx_uu, va_up_lit, List.length_cons, List.length_nil, List.drop_succ_cons, List.drop_zero, Option.toList_some, Option.toList_none, List.cons_append, List.nil_append, o, a25, a35, w3, w4, e25, e35]))
  (try refine zS_one rfl ?_)
  refine r_callS (c_last sc d _ ((V s).1 0)) rfl rfl rfl rfl (Nat.le_refl _) (Nat.le_refl _) ?_
  rintro r h' ⟨rfl, rfl⟩
  by_cases z : (V s).1 7 = lim (V s).1
  · have z' : (V s).1 7 = (if (V s).1 0 = 0 then 3 else 2) := z
    (repeat (refine zS_one rfl ?_; simp (disch := (first | decide | assumption | omega)) only [i_push, i_null, i_ild, i_ald, i_ist, i_ast, i_inc, i_bin, i_div, i_un, i_dup, i_pop, i_dup2, i_if, i_icmp, i_nul, i_nnl, i_goto, i_getf, i_putf, i_gets, i_nald, i_nast, i_aald, i_aast, i_alen, i_new, i_newa, i_newq, i_math, i_oini, i_iret, i_zret, i_aret, i_vret, z_fit, List.getElem?_cons_zero, List.getElem?_cons_succ, List.set_cons_zero, List.set_cons_succ, Nat.reduceAdd, Nat.reduceLT, Nat.reduceLeDiff, Nat.reduceEqDiff, Nat.zero_lt_succ, Value.category, true_and, or_true, true_or, and_true, false_implies, true_implies, not_false_eq_true, not_true_eq_false, List.map_cons, List.map_nil, List.sum_cons, List.sum_nil, va_up_eq, bx_uu, va_up_lit, List.length_cons, List.length_nil, List.drop_succ_cons, List.drop_zero, Option.toList_some, Option.toList_none, List.cons_append, List.nil_append, z']))
    exact hP _ _ ⟨rfl, Or.inl ⟨rfl, (lim_eq hI hst).mp z⟩⟩
  · have z' : ¬ (V s).1 7 = (if (V s).1 0 = 0 then 3 else 2) := z
    (repeat (refine zS_one rfl ?_; simp (disch := (first | decide | assumption | omega)) only [i_push, i_null, i_ild, i_ald, i_ist, i_ast, i_inc, i_bin, i_div, i_un, i_dup, i_pop, i_dup2, i_if, i_icmp, i_nul, i_nnl, i_goto, i_getf, i_putf, i_gets, i_nald, i_nast, i_aald, i_aast, i_alen, i_new, i_newa, i_newq, i_math, i_oini, i_iret, i_zret, i_aret, i_vret, z_fit, List.getElem?_cons_zero, List.getElem?_cons_succ, List.set_cons_zero, List.set_cons_succ, Nat.reduceAdd, Nat.reduceLT, Nat.reduceLeDiff, Nat.reduceEqDiff, Nat.zero_lt_succ, Value.category, true_and, or_true, true_or, and_true, false_implies, true_implies, not_false_eq_true, not_true_eq_false, List.map_cons, List.map_nil, List.sum_cons, List.sum_nil, va_up_eq, bx_uu, va_up_lit, List.length_cons, List.length_nil, List.drop_succ_cons, List.drop_zero, Option.toList_some, Option.toList_none, List.cons_append, List.nil_append, z']))
    refine hP _ _ ⟨rfl, Or.inr ⟨rfl, ?_⟩⟩
    by_cases q : (V s).1 7 < lim (V s).1
    · exact q
    · exact absurd ((lim_eq hI hst).mpr q) z
theorem c_writes (sc : Nat × (Nat → Int32)) (d : Nat) (hW : MW h0 S A n den) {s : Nat} (hs : s < 12) (hi : A 26 s = 0 ∨ A 26 s = 1) : zMt zTab sc (d + 1) 99 [.ref 15, .int (nI s)] h0 0 0 (fun r h' => h' = h0 ∧ ((r = some (.int 1) ∧ A 26 s = (if A 35 s - A 35 s / 2 * 2 = 0 then 1 else 0)) ∨ (r = some (.int 0) ∧ ¬ A 26 s = (if A 35 s - A 35 s / 2 * 2 = 0 then 1 else 0)))) := by
  have o := hW.o
  have a26 := hW.a 26 1 12 (by decide) (by decide) rfl rfl
  have a35 := hW.a 35 0 12 (by decide) (by decide) rfl rfl
  have w3 : vp_in (nI s) 12 := vp_in_nI (by omega) (by decide)
  have w4 : (nI s).toNatClampNeg = s := nI_clamp (by omega)
  have q20 : ¬ (2 : Int32) = 0 := by decide
  have q10 : ¬ (1 : Int32) = 0 := by decide
  have q01 : ¬ (0 : Int32) = 1 := by decide
  refine zM_gen fun P hP => ?_
  refine zM_start (r := r_Mo_writes) (cd := k_Mo_writes) (L0 := [some (.ref 15), some (.int (nI s))]) rfl rfl rfl rfl rfl ?_
  by_cases z : A 35 s - A 35 s / 2 * 2 = 0
  · rw [if_pos z] at hP
    rcases hi with hi | hi
    · (repeat (refine zS_one rfl ?_; simp (disch := (first | decide | assumption | omega)) only [i_push, i_null, i_ild, i_ald, i_ist, i_ast, i_inc, i_bin, i_div, i_un, i_dup, i_pop, i_dup2, i_if, i_icmp, i_nul, i_nnl, i_goto, i_getf, i_putf, i_gets, i_nald, i_nast, i_aald, i_aast, i_alen, i_new, i_newa, i_newq, i_math, i_oini, i_iret, i_zret, i_aret, i_vret, z_fit, List.getElem?_cons_zero, List.getElem?_cons_succ, List.set_cons_zero, List.set_cons_succ, Nat.reduceAdd, Nat.reduceLT, Nat.reduceLeDiff, Nat.reduceEqDiff, Nat.zero_lt_succ, Value.category, true_and, or_true, true_or, and_true, false_implies, true_implies, not_false_eq_true, not_true_eq_false, List.map_cons, List.map_nil, List.sum_cons, List.sum_nil, va_up_eq, bx_uu, va_up_lit, List.length_cons, List.length_nil, List.drop_succ_cons, List.drop_zero, Option.toList_some, Option.toList_none, List.cons_append, List.nil_append, o, a26, a35, w3, w4, q20, z, hi, q10]))
      exact hP _ _ ⟨rfl, Or.inr ⟨rfl, by rw [hi]; decide⟩⟩
    · (repeat (refine zS_one rfl ?_; simp (disch := (first | decide | assumption | omega)) only [i_push, i_null, i_ild, i_ald, i_ist, i_ast, i_inc, i_bin, i_div, i_un, i_dup, i_pop, i_dup2, i_if, i_icmp, i_nul, i_nnl, i_goto, i_getf, i_putf, i_gets, i_nald, i_nast, i_aald, i_aast, i_alen, i_new, i_newa, i_newq, i_math, i_oini, i_iret, i_zret, i_aret, i_vret, z_fit, List.getElem?_cons_zero, List.getElem?_cons_succ, List.set_cons_zero, List.set_cons_succ, Nat.reduceAdd, Nat.reduceLT, Nat.reduceLeDiff, Nat.reduceEqDiff, Nat.zero_lt_succ, Value.category, true_and, or_true, true_or, and_true, false_implies, true_implies, not_false_eq_true, not_true_eq_false, List.map_cons, List.map_nil, List.sum_cons, List.sum_nil, va_up_eq, bx_uu, va_up_lit, List.length_cons, List.length_nil, List.drop_succ_cons, List.drop_zero, Option.toList_some, Option.toList_none, List.cons_append, List.nil_append, o, a26, a35, w3, w4, q20, z, hi]))
      exact hP _ _ ⟨rfl, Or.inl ⟨rfl, hi⟩⟩
  · rw [if_neg z] at hP
    rcases hi with hi | hi
    · (repeat (refine zS_one rfl ?_; simp (disch := (first | decide | assumption | omega)) only [i_push, i_null, i_ild, i_ald, i_ist, i_ast, i_inc, i_bin, i_div, i_un, i_dup, i_pop, i_dup2, i_if, i_icmp, i_nul, i_nnl, i_goto, i_getf, i_putf, i_gets, i_nald, i_nast, i_aald, i_aast, i_alen, i_new, i_newa, i_newq, i_math, i_oini, i_iret, i_zret, i_aret, i_vret, z_fit, List.getElem?_cons_zero, List.getElem?_cons_succ, List.set_cons_zero, List.set_cons_succ, Nat.reduceAdd, Nat.reduceLT, Nat.reduceLeDiff, Nat.reduceEqDiff, Nat.zero_lt_succ, Value.category, true_and, or_true, true_or, and_true, false_implies, true_implies, not_false_eq_true, not_true_eq_false, List.map_cons, List.map_nil, List.sum_cons, List.sum_nil, va_up_eq, bx_uu, va_up_lit, List.length_cons, List.length_nil, List.drop_succ_cons, List.drop_zero, Option.toList_some, Option.toList_none, List.cons_append, List.nil_append, o, a26, a35, w3, w4, q20, z, hi]))
      exact hP _ _ ⟨rfl, Or.inl ⟨rfl, hi⟩⟩
    · (repeat (refine zS_one rfl ?_; simp (disch := (first | decide | assumption | omega)) only [i_push, i_null, i_ild, i_ald, i_ist, i_ast, i_inc, i_bin, i_div, i_un, i_dup, i_pop, i_dup2, i_if, i_icmp, i_nul, i_nnl, i_goto, i_getf, i_putf, i_gets, i_nald, i_nast, i_aald, i_aast, i_alen, i_new, i_newa, i_newq, i_math, i_oini, i_iret, i_zret, i_aret, i_vret, z_fit, List.getElem?_cons_zero, List.getElem?_cons_succ, List.set_cons_zero, List.set_cons_succ, Nat.reduceAdd, Nat.reduceLT, Nat.reduceLeDiff, Nat.reduceEqDiff, Nat.zero_lt_succ, Value.category, true_and, or_true, true_or, and_true, false_implies, true_implies, not_false_eq_true, not_true_eq_false, List.map_cons, List.map_nil, List.sum_cons, List.sum_nil, va_up_eq, bx_uu, va_up_lit, List.length_cons, List.length_nil, List.drop_succ_cons, List.drop_zero, Option.toList_some, Option.toList_none, List.cons_append, List.nil_append, o, a26, a35, w3, w4, q20, z, hi, q01]))
      exact hP _ _ ⟨rfl, Or.inr ⟨rfl, by rw [hi]; decide⟩⟩
end MOC
