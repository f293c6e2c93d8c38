theorem wtok_len {tok : Int32} {s : zW} : (wtok tok s).2.2.1.length = s.2.2.1.length + (if tok = 1 ∨ tok = 2 then 1 else 0) := by
  unfold wtok
  by_cases h1 : tok = 1
  · rw [if_pos h1, if_pos (Or.inl h1)]
    simp
  · by_cases h2 : tok = 2
    · rw [if_neg h1, if_pos h2, if_pos (Or.inr h2)]
      simp
    · have h3 : ¬ (tok = 1 ∨ tok = 2) := fun z => z.elim h1 h2
      by_cases h0 : tok = 0
      · rw [if_neg h1, if_neg h2, if_pos h0, if_neg h3]
        rfl
      · rw [if_neg h1, if_neg h2, if_neg h0, if_neg h3]
        rfl
theorem wtok_k {tok : Int32} {s : zW} (h : ¬ tok = 1) : (wtok tok s).2.2.2 = s.2.2.2 := by
  unfold wtok
  rw [if_neg h]
  split
  · rfl
  · split <;> rfl
theorem tok_rows : ∀ r, r < 5 → (¬ z_tok (r * 4 + 1) = 1 ∧ ¬ z_tok (r * 4 + 1) = 2 ∧ ¬ z_tok (r * 4 + 2) = 1 ∧ ¬ z_tok (r * 4 + 3) = 1 ∧ ¬ z_tok (r * 4 + 3) = 2) ∧ (r ≠ 2 ↔ z_tok (r * 4 + 0) = 1) := by decide
theorem tok_in : ∀ r, r < 5 → ∀ i, i < 4 → z_tok (r * 4 + i) = 0 ∨ z_tok (r * 4 + i) = 1 ∨ z_tok (r * 4 + i) = 2 ∨ z_tok (r * 4 + i) = 3 ∨ z_tok (r * 4 + i) = 4 ∨ z_tok (r * 4 + i) = 5 ∨ z_tok (r * 4 + i) = 6 := by decide
theorem up_nil {α : Type} {f : Nat → α} {m : Nat} {v : α} (h : f m = v) : va_up f m v = f := by
  funext j
  unfold va_up
  split
  · next e => rw [e, h]
  · rfl
theorem crow_le : ∀ r, r < 5 → ct (z_tok (r * 4 + 0)) ≤ 3 ∧ ct (z_tok (r * 4 + 1)) ≤ 3 ∧ ct (z_tok (r * 4 + 2)) ≤ 3 ∧ ct (z_tok (r * 4 + 3)) ≤ 3 := by decide
section AG5
variable {h0 : zH} {a n k m : Nat} {den : Nat → zT} {G : Nat → Int32} {ps : Nat → List zT} {I : Nat → Int32} {Θ : Nat → zT}
set_option maxHeartbeats 4000000 in
theorem c_AwriteNext (sc : Nat × (Nat → Int32)) (d : Nat) (ha : 44 ≤ a) (hm6 : m < 60) (hw : wld h0 a n k den G m ps I Θ) (hps : ps m = []) {p st : Nat} (h1 : I 0 = nI p) (h2 : I 7 = nI st) (hr : p * 3 + st ≤ 4) (hst : st < 3) (hk : p * 3 + st ≠ 2 → k < 20) (hn : n + 16 < 720) (pay : Int32) : zMt zTab sc (d + 6) 5 [.ref a, .ref 11, .int pay] h0 0 0 (fun r h' => r = none ∧ wAt h0 a n den (crow (p * 3 + st) + 3) G m ps (wpay pay (wrow (p * 3 + st) (I, Θ, [], k))) h') := by
  refine zM_gen fun P hP => ?_
  refine zM_start (r := r_Ag_writeNext) (cd := k_Ag_writeNext) (L0 := [some (.ref a), some (.ref 11), some (.int pay), none, none]) rfl rfl rfl rfl rfl ?_
  obtain ⟨⟨f1, f2, f3, f4, f5⟩, f0⟩ := tok_rows (p * 3 + st) (by omega)
  obtain ⟨l0, l1, l2, l3⟩ := crow_le (p * 3 + st) (by omega)
  have tin : ∀ i, i < 4 → z_tok ((p * 3 + st) * 4 + i) = 0 ∨ z_tok ((p * 3 + st) * 4 + i) = 1 ∨ z_tok ((p * 3 + st) * 4 + i) = 2 ∨ isMix (z_tok ((p * 3 + st) * 4 + i)) := tok_in (p * 3 + st) (by omega)
  (iterate 2 (refine zS_one rfl ?_; simp (disch := (first | decide | assumption | omega)) only [i_push, i_null, i_ild, i_ald, i_ist, i_ast, i_inc, i_bin, i_div, i_un, i_dup, i_pop, i_dup2, i_if, i_icmp, i_nul, i_nnl, i_goto, i_getf, i_putf, i_gets, i_nald, i_nast, i_aald, i_aast, i_alen, i_new, i_newa, i_newq, i_math, i_oini, i_iret, i_zret, i_aret, i_vret, z_fit, List.getElem?_cons_zero, List.getElem?_cons_succ, List.set_cons_zero, List.set_cons_succ, Nat.reduceAdd, Nat.reduceLT, Nat.reduceLeDiff, Nat.reduceEqDiff, Nat.zero_lt_succ, Value.category, true_and, or_true, true_or, and_true, false_implies, true_implies, not_false_eq_true, not_true_eq_false, List.map_cons, List.map_nil, List.sum_cons, List.sum_nil, va_up_eq, bx_uu, va_up_lit, List.length_cons, List.length_nil, List.drop_succ_cons, List.drop_zero, Option.toList_some, Option.toList_none, List.cons_append, List.nil_append, nI_1']))
  have hw0 : wAt h0 a n den 0 G m ps (I, Θ, [], k) h0 := ⟨n, den, exq.rf, by rw [up_nil hps]; exact hw, frA.rf⟩
  refine c_wtok sc d ha hm6 (i := 0) hw0 h1 h2 hr (by decide) (fun z => hk (f0.mpr z)) (fun _ => Nat.zero_lt_succ _) (by omega) (tin 0 (by decide)) (fun h' x' hw1 => ?_)
  refine c_wtok sc d ha hm6 (i := 1) hw1 (wtok_I.1.trans h1) (wtok_I.2.2.2.trans h2) hr (by decide) (fun z => absurd z f1) (fun z => absurd z (fun z => z.elim f1 f2)) (by omega) (tin 1 (by decide)) (fun h' x' hw2 => ?_)
  refine c_wtok sc d ha hm6 (i := 2) hw2 (wtok_I.1.trans (wtok_I.1.trans h1)) (wtok_I.2.2.2.trans (wtok_I.2.2.2.trans h2)) hr (by decide) (fun z => absurd z f3) (fun _ => ?_) (by omega) (tin 2 (by decide)) (fun h' x' hw3 => ?_)
  · rw [wtok_len, wtok_len, if_neg (show ¬ (z_tok ((p * 3 + st) * 4 + 1) = 1 ∨ z_tok ((p * 3 + st) * 4 + 1) = 2) from fun z => z.elim f1 f2)]
    show [].length + _ + 0 < 3
    split <;> decide
  refine c_wtok sc d ha hm6 (i := 3) hw3 (wtok_I.1.trans (wtok_I.1.trans (wtok_I.1.trans h1))) (wtok_I.2.2.2.trans (wtok_I.2.2.2.trans (wtok_I.2.2.2.trans h2))) hr (by decide) (fun z => absurd z f4) (fun z => absurd z (fun z => z.elim f4 f5)) (by omega) (tin 3 (by decide)) (fun h' x' hw4 => ?_)
  have hlen : (wrow (p * 3 + st) (I, Θ, [], k)).2.2.1.length < 3 := by
    unfold wrow
    rw [wtok_len, wtok_len, wtok_len, wtok_len, if_neg (show ¬ (z_tok ((p * 3 + st) * 4 + 3) = 1 ∨ z_tok ((p * 3 + st) * 4 + 3) = 2) from fun z => z.elim f4 f5), if_neg (show ¬ (z_tok ((p * 3 + st) * 4 + 1) = 1 ∨ z_tok ((p * 3 + st) * 4 + 1) = 2) from fun z => z.elim f1 f2)]
    show [].length + _ + 0 + _ + 0 < 3
    split <;> split <;> decide
  have h7 : (wrow (p * 3 + st) (I, Θ, [], k)).1 7 = nI st := wtok_I.2.2.2.trans (wtok_I.2.2.2.trans (wtok_I.2.2.2.trans (wtok_I.2.2.2.trans h2)))
  have hw4' : wAt h0 a n den (crow (p * 3 + st)) G m ps (wrow (p * 3 + st) (I, Θ, [], k)) h' := by
    unfold crow
    obtain ⟨n4, den4, hx4, hr4⟩ := hw4
    exact ⟨n4, den4, hx4.le (by omega), hr4⟩
  have hcr : crow (p * 3 + st) ≤ 12 := by unfold crow; omega
  generalize wrow (p * 3 + st) (I, Θ, [], k) = s at hw4' hlen h7 hP ⊢
  obtain ⟨n1, den1, hx1, hw1, hf1⟩ := hw4'
  have hn1 := hx1.2.1
  have hw1' := hw1
  obtain ⟨hT, hM, x0, y0, z0, e, hx, hy, hz, hI⟩ := hw1
  unfold aF at e
  have w4 : 4 ≤ nI (3 + 1) := by decide
  (repeat (refine zS_one rfl ?_; simp (disch := (first | decide | assumption | omega)) only [i_push, i_null, i_ild, i_ald, i_ist, i_ast, i_inc, i_bin, i_div, i_un, i_dup, i_pop, i_dup2, i_if, i_icmp, i_nul, i_nnl, i_goto, i_getf, i_putf, i_gets, i_nald, i_nast, i_aald, i_aast, i_alen, i_new, i_newa, i_newq, i_math, i_oini, i_iret, i_zret, i_aret, i_vret, z_fit, List.getElem?_cons_zero, List.getElem?_cons_succ, List.set_cons_zero, List.set_cons_succ, Nat.reduceAdd, Nat.reduceLT, Nat.reduceLeDiff, Nat.reduceEqDiff, Nat.zero_lt_succ, Value.category, true_and, or_true, true_or, and_true, false_implies, true_implies, not_false_eq_true, not_true_eq_false, List.map_cons, List.map_nil, List.sum_cons, List.sum_nil, va_up_eq, bx_uu, va_up_lit, List.length_cons, List.length_nil, List.drop_succ_cons, List.drop_zero, Option.toList_some, Option.toList_none, List.cons_append, List.nil_append, w4, e]))
  (try refine zS_one rfl ?_)
  refine r_callV (c_num sc (d + 2) hT (by omega) pay) rfl rfl rfl rfl hT.o (Nat.le_refl _) (Nat.le_refl _) ?_
  rintro r h2 ⟨u, n2, den2, rfl, u1, u2, u3, hT2, g1, g2, g3, hf2⟩
  have hx2 : exq n1 den1 n2 den2 1 := ⟨g1, g2, g3⟩
  have hw2 := hw1'.mk ha hT2 hx2 hf2 (by decide)
  have e2 : h2.1 a = _ := (hf2.1 a (by omega)).trans e
  (repeat (refine zS_one rfl ?_; simp (disch := (first | decide | assumption | omega)) only [i_push, i_null, i_ild, i_ald, i_ist, i_ast, i_inc, i_bin, i_div, i_un, i_dup, i_pop, i_dup2, i_if, i_icmp, i_nul, i_nnl, i_goto, i_getf, i_putf, i_gets, i_nald, i_nast, i_aald, i_aast, i_alen, i_new, i_newa, i_newq, i_math, i_oini, i_iret, i_zret, i_aret, i_vret, z_fit, List.getElem?_cons_zero, List.getElem?_cons_succ, List.set_cons_zero, List.set_cons_succ, Nat.reduceAdd, Nat.reduceLT, Nat.reduceLeDiff, Nat.reduceEqDiff, Nat.zero_lt_succ, Value.category, true_and, or_true, true_or, and_true, false_implies, true_implies, not_false_eq_true, not_true_eq_false, List.map_cons, List.map_nil, List.sum_cons, List.sum_nil, va_up_eq, bx_uu, va_up_lit, List.length_cons, List.length_nil, List.drop_succ_cons, List.drop_zero, Option.toList_some, Option.toList_none, List.cons_append, List.nil_append]))
  (try refine zS_one rfl ?_)
  refine r_callV (c_closedUp sc (d + 1) ha hw2 (by omega) u1 u2) rfl rfl rfl rfl e2 (Nat.le_refl _) (Nat.le_refl _) ?_
  rintro r h3 ⟨v, n3, den3, rfl, v1, v2, v3, hx3, hw3, hf3⟩
  have hn3 := hx3.2.1
  obtain ⟨x3, y3, z3, e3, -⟩ := hw3.2.2
  (repeat (refine zS_one rfl ?_; simp (disch := (first | decide | assumption | omega)) only [i_push, i_null, i_ild, i_ald, i_ist, i_ast, i_inc, i_bin, i_div, i_un, i_dup, i_pop, i_dup2, i_if, i_icmp, i_nul, i_nnl, i_goto, i_getf, i_putf, i_gets, i_nald, i_nast, i_aald, i_aast, i_alen, i_new, i_newa, i_newq, i_math, i_oini, i_iret, i_zret, i_aret, i_vret, z_fit, List.getElem?_cons_zero, List.getElem?_cons_succ, List.set_cons_zero, List.set_cons_succ, Nat.reduceAdd, Nat.reduceLT, Nat.reduceLeDiff, Nat.reduceEqDiff, Nat.zero_lt_succ, Value.category, true_and, or_true, true_or, and_true, false_implies, true_implies, not_false_eq_true, not_true_eq_false, List.map_cons, List.map_nil, List.sum_cons, List.sum_nil, va_up_eq, bx_uu, va_up_lit, List.length_cons, List.length_nil, List.drop_succ_cons, List.drop_zero, Option.toList_some, Option.toList_none, List.cons_append, List.nil_append]))
  (try refine zS_one rfl ?_)
  refine r_callV (c_Aadd sc (d + 1) ha hw3 (by omega) hm6 (by rw [va_up_eq]; exact hlen) v1 v2) rfl rfl rfl rfl e3 (Nat.le_refl _) (Nat.le_refl _) ?_
  rintro r h5 ⟨rfl, n5, den5, hx5, hw5, hf5⟩
  rw [v3, u3, va_up_eq, bx_uu] at hw5
  obtain ⟨hT5, hM5, x5, y5, z5, e5, q1, q2, q3, q4⟩ := hw5
  unfold aF at e5
  (repeat (refine zS_one rfl ?_; simp (disch := (first | decide | assumption | omega)) only [i_push, i_null, i_ild, i_ald, i_ist, i_ast, i_inc, i_bin, i_div, i_un, i_dup, i_pop, i_dup2, i_if, i_icmp, i_nul, i_nnl, i_goto, i_getf, i_putf, i_gets, i_nald, i_nast, i_aald, i_aast, i_alen, i_new, i_newa, i_newq, i_math, i_oini, i_iret, i_zret, i_aret, i_vret, z_fit, List.getElem?_cons_zero, List.getElem?_cons_succ, List.set_cons_zero, List.set_cons_succ, Nat.reduceAdd, Nat.reduceLT, Nat.reduceLeDiff, Nat.reduceEqDiff, Nat.zero_lt_succ, Value.category, true_and, or_true, true_or, and_true, false_implies, true_implies, not_false_eq_true, not_true_eq_false, List.map_cons, List.map_nil, List.sum_cons, List.sum_nil, va_up_eq, bx_uu, va_up_lit, List.length_cons, List.length_nil, List.drop_succ_cons, List.drop_zero, Option.toList_some, Option.toList_none, List.cons_append, List.nil_append, e5]))
  refine hP _ _ ⟨rfl, n5, den5, (((hx1.tr hx2).tr hx3).tr hx5), ?_, ?_⟩
  · have hi7 : (inc s.1 s.2.1) 7 = s.1 7 := by unfold inc; split <;> rfl
    have := wld_set (h := h5) (I := va_up (inc s.1 s.2.1) 7 (s.1 7 + 1)) ha hT5 hM5 q1 q2 q3 ⟨q4.1, q4.2.1, q4.2.2.1, q4.2.2.2.1, q4.2.2.2.2.1, q4.2.2.2.2.2.1, st + 1, by omega, by rw [va_up_eq, h7, nI_1]⟩
    rw [← hi7] at this
    unfold wpay
    rw [← hi7]
    exact this
  · exact ((hf1.tr (hf2.A (by decide) (by decide))).tr (hf3.tr hf5)).tr frA_set
end AG5
