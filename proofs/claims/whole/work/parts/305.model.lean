theorem MV.move {h h' : zH} {S S' : Nat → Int32} {A A' : Nat → Nat → Int32} {n n' s c : Nat} {den den' : Nat → zT} {I : Nat → Int32} {Θ : Nat → zT} (hV : MV h S A n den s I Θ) (hW : MW h' S' A' n' den') (hx : exM n den n' den' c) (hS : ∀ q, 4 ≤ q → q ≤ 11 → S' q = S q) (hA : ∀ p, 20 < p → p < 43 → A' p = A p) : MV h' S' A' n' den' s I Θ := by
  obtain ⟨-, hs, h4, ⟨x, hx1, hx2, hx3⟩, ⟨y, hy1, hy2, hy3⟩, hk, ⟨h8, h9, h10, h11⟩, ⟨a25, a26, a27, a35⟩, hI⟩ := hV
  refine ⟨hW, hs, (hS 4 (by decide) (by decide)).trans h4, ⟨x, Nat.lt_of_lt_of_le hx1 hx.1, (hS 5 (by decide) (by decide)).trans hx2, (hx.2.2 x hx1).trans hx3⟩, ⟨y, Nat.lt_of_lt_of_le hy1 hx.1, (hS 6 (by decide) (by decide)).trans hy2, (hx.2.2 y hy1).trans hy3⟩, by rw [hS 7 (by decide) (by decide)]; exact hk.ext hx, ⟨(hS 8 (by decide) (by decide)).trans h8, (hS 9 (by decide) (by decide)).trans h9, (hS 10 (by decide) (by decide)).trans h10, (hS 11 (by decide) (by decide)).trans h11⟩, ⟨by rw [hA 25 (by decide) (by decide)]; exact a25, by rw [hA 26 (by decide) (by decide)]; exact a26, by rw [hA 27 (by decide) (by decide)]; exact a27, by rw [hA 35 (by decide) (by decide)]; exact a35⟩, hI⟩
/-- the parts at hand -/
def pB (S : Nat → Int32) (A : Nat → Nat → Int32) (n : Nat) (den : Nat → zT) (l : List zT) : Prop := S 12 = nI l.length ∧ l.length ≤ 3 ∧ ∀ j τ, l[j]? = some τ → ∃ t, t < n ∧ A 43 j = nI t ∧ den t = τ
theorem pB.ext {S S' : Nat → Int32} {A A' : Nat → Nat → Int32} {n n' c : Nat} {den den' : Nat → zT} {l : List zT} (h : pB S A n den l) (hx : exM n den n' den' c) (hS : S' 12 = S 12) (hA : A' 43 = A 43) : pB S' A' n' den' l := by
  refine ⟨hS.trans h.1, h.2.1, fun j τ hj => ?_⟩
  obtain ⟨t, ht, e, ed⟩ := h.2.2 j τ hj
  exact ⟨t, Nat.lt_of_lt_of_le ht hx.1, by rw [hA]; exact e, (hx.2.2 t ht).trans ed⟩
def paQ (h0 : zH) (S : Nat → Int32) (A : Nat → Nat → Int32) (n : Nat) (den : Nat → zT) (s c : Nat) (I' : Nat → Int32) (Θ' : Nat → zT) (l' : List zT) (h' : zH) : Prop := ∃ n' den' S' A', MV h' S' A' n' den' s I' Θ' ∧ pB S' A' n' den' l' ∧ exM n den n' den' c ∧ (∀ q, q = 1 ∨ q = 2 ∨ q = 3 ∨ 13 ≤ q → S' q = S q) ∧ (∀ p, 20 < p → p < 43 → A' p = A p) ∧ frN h0 h'
section MO5
variable {h0 : zH} {S : Nat → Int32} {A : Nat → Nat → Int32} {n s : Nat} {den : Nat → zT} {I : Nat → Int32} {Θ : Nat → zT} {l : List zT}
set_option maxHeartbeats 4000000 in
theorem c_MaddPart (sc : Nat × (Nat → Int32)) (d : Nat) (hV : MV h0 S A n den s I Θ) (hB : pB S A n den l) (hl : l.length < 3) (hn : n < 1200) {t : Nat} (ht : t < n) : zMt zTab sc (d + 4) 92 [.ref 15, .int (nI t)] h0 0 0 (fun r h' => r = none ∧ paQ h0 S A n den s 1 I (hsh Θ (den t)) (l ++ [den t]) h') := by
  have hW := hV.1
  have o := hW.o
  rw [hB.1] at o
  have a43 := hW.a 43 0 3 (by decide) (by decide) rfl rfl
  have w3 : vp_in (nI l.length) 3 := vp_in_nI (by omega) (by decide)
  have w4 : (nI l.length).toNatClampNeg = l.length := nI_clamp (by omega)
  refine zM_gen fun P hP => ?_
  refine zM_start (r := r_Mo_addPart) (cd := k_Mo_addPart) (L0 := [some (.ref 15), some (.int (nI t))]) rfl rfl rfl rfl rfl ?_
  have hV3 : ∀ fs, fs = mF (va_up S 12 (nI (l.length + 1))) → MV (va_up (va_up h0.1 43 (.inl (0, 3, .inl (upd (A 43) l.length (nI t))))) 15 (.inr (6, fs)), h0.2) (va_up S 12 (nI (l.length + 1))) (va_up A 43 (upd (A 43) l.length (nI t))) n den s I Θ := fun fs hfs =>
    hV.move (c := 0) ((hW.put 43 (upd (A 43) l.length (nI t)) (kd := 0) (ln := 3) (by decide) (by decide) rfl rfl).fld hfs (va_up_lit _ _ _ _ (by decide))) exM.rf (fun q h1 h2 => va_up_lit _ _ _ _ (by omega)) (fun p h1 h2 => va_up_lit _ _ _ _ (by omega))
  (repeat (refine zS_one rfl ?_; simp (disch := (first | decide | assumption | omega)) only [i_push, i_null, i_ild, i_ald, i_ist, i_ast, i_inc, i_bin, i_div, i_un, i_dup, i_pop, i_dup2, i_if, i_icmp, i_nul, i_nnl, i_goto, i_getf, i_putf, i_gets, i_nald, i_nast, i_aald, i_aast, i_alen, i_new, i_newa, i_newq, i_math, i_oini, i_iret, i_zret, i_aret, i_vret, z_fit, List.getElem?_cons_zero, List.getElem?_cons_succ, List.set_cons_zero, List.set_cons_succ, Nat.reduceAdd, Nat.reduceLT, Nat.reduceLeDiff, Nat.reduceEqDiff, Nat.zero_lt_succ, Value.category, true_and, or_true, true_or, and_true, false_implies, true_implies, not_false_eq_true, not_true_eq_false, List.map_cons, List.map_nil, List.sum_cons, List.sum_nil, va_up_eq, bx_uu, va_up_lit, List.length_cons, List.length_nil, List.drop_succ_cons, List.drop_zero, Option.toList_some, Option.toList_none, List.cons_append, List.nil_append, o, a43, w3, w4, nI_1']))
  (try refine zS_one rfl ?_)
  refine r_callV (c_mixHash sc d (hV3 _ (by unfold mF; simp (disch := decide) only [va_up_eq, va_up_lit])) hn ht) rfl rfl rfl rfl rfl (Nat.le_refl _) (Nat.le_refl _) ?_
  rintro r h1 ⟨rfl, n', den', S', A', hV', hx, hS, hA, hf⟩
  (repeat (refine zS_one rfl ?_; simp (disch := (first | decide | assumption | omega)) only [i_push, i_null, i_ild, i_ald, i_ist, i_ast, i_inc, i_bin, i_div, i_un, i_dup, i_pop, i_dup2, i_if, i_icmp, i_nul, i_nnl, i_goto, i_getf, i_putf, i_gets, i_nald, i_nast, i_aald, i_aast, i_alen, i_new, i_newa, i_newq, i_math, i_oini, i_iret, i_zret, i_aret, i_vret, z_fit, List.getElem?_cons_zero, List.getElem?_cons_succ, List.set_cons_zero, List.set_cons_succ, Nat.reduceAdd, Nat.reduceLT, Nat.reduceLeDiff, Nat.reduceEqDiff, Nat.zero_lt_succ, Value.category, true_and, or_true, true_or, and_true, false_implies, true_implies, not_false_eq_true, not_true_eq_false, List.map_cons, List.map_nil, List.sum_cons, List.sum_nil, va_up_eq, bx_uu, va_up_lit, List.length_cons, List.length_nil, List.drop_succ_cons, List.drop_zero, Option.toList_some, Option.toList_none, List.cons_append, List.nil_append]))
  refine hP _ _ ⟨rfl, n', den', S', A', hV', ⟨?_, ?_, fun j τ hj => ?_⟩, hx, fun q hq => ?_, fun p h1 h2 => ?_, (((frN.put (by decide) (by decide)).tr (frN.put (by decide) (by decide))).tr hf)⟩
  · rw [hS 12 (by omega), va_up_eq, List.length_append]; rfl
  · rw [List.length_append]; exact hl
  · rw [hA 43 (by omega), va_up_eq]
    by_cases z : j < l.length
    · rw [List.getElem?_append_left z] at hj
      obtain ⟨u, hu, e, ed⟩ := hB.2.2 j τ hj
      exact ⟨u, Nat.lt_of_lt_of_le hu hx.1, by rw [upd_n (by omega)]; exact e, (hx.2.2 u hu).trans ed⟩
    · rw [List.getElem?_append_right (by omega)] at hj
      have hj0 : j - l.length = 0 := by
        have := (List.getElem?_eq_some_iff.mp hj).1
        simp only [List.length_cons, List.length_nil] at this
        omega
      rw [hj0] at hj
      have : den t = τ := by injection hj
      have hjl : j = l.length := by omega
      subst hjl
      exact ⟨t, Nat.lt_of_lt_of_le ht hx.1, upd_s, (hx.2.2 t ht).trans this⟩
  · rw [hS q (by omega), va_up_lit _ _ _ _ (by omega)]
  · rw [hA p (by omega), va_up_lit _ _ _ _ (by omega)]
set_option maxHeartbeats 4000000 in
theorem c_put (sc : Nat × (Nat → Int32)) (d : Nat) (hV : MV h0 S A n den s I Θ) (hB : pB S A n den l) (hl : l.length < 3) (hn : n + 2 ≤ 1200) {t : Nat} (ht : t < n) : zMt zTab sc (d + 5) 93 [.ref 15, .int (nI t)] h0 0 0 (fun r h' => r = none ∧ paQ h0 S A n den s 2 (inc I Θ) (hsh Θ (prt I Θ (den t))) (l ++ [prt I Θ (den t)]) h') := by
  obtain ⟨hW, -, -, ⟨x, hx1, hx2, hx3⟩, -, hk, ⟨e8, -⟩, -⟩ := id hV
  have o := hW.o
  refine zM_gen fun P hP => ?_
  refine zM_start (r := r_Mo_put) (cd := k_Mo_put) (L0 := [some (.ref 15), some (.int (nI t)), none]) rfl rfl rfl rfl rfl ?_
  rcases hk with ⟨ek, hk⟩ | ⟨z, hz, ek, edz, hk⟩
  · have w : ¬ (0 : Int32) ≤ -1 := by decide
    rw [ek] at o
    (repeat (refine zS_one rfl ?_; simp (disch := (first | decide | assumption | omega)) only [i_push, i_null, i_ild, i_ald, i_ist, i_ast, i_inc, i_bin, i_div, i_un, i_dup, i_pop, i_dup2, i_if, i_icmp, i_nul, i_nnl, i_goto, i_getf, i_putf, i_gets, i_nald, i_nast, i_aald, i_aast, i_alen, i_new, i_newa, i_newq, i_math, i_oini, i_iret, i_zret, i_aret, i_vret, z_fit, List.getElem?_cons_zero, List.getElem?_cons_succ, List.set_cons_zero, List.set_cons_succ, Nat.reduceAdd, Nat.reduceLT, Nat.reduceLeDiff, Nat.reduceEqDiff, Nat.zero_lt_succ, Value.category, true_and, or_true, true_or, and_true, false_implies, true_implies, not_false_eq_true, not_true_eq_false, List.map_cons, List.map_nil, List.sum_cons, List.sum_nil, va_up_eq, bx_uu, va_up_lit, List.length_cons, List.length_nil, List.drop_succ_cons, List.drop_zero, Option.toList_some, Option.toList_none, List.cons_append, List.nil_append, o, w]))
    (try refine zS_one rfl ?_)
    refine r_callV (c_MaddPart sc d hV hB hl (by omega) ht) rfl rfl rfl rfl hW.f (Nat.le_refl _) (Nat.le_refl _) ?_
    rintro r h1 ⟨rfl, n', den', S', A', hV', hB', hx, hS, hA, hf⟩
    (repeat (refine zS_one rfl ?_; simp (disch := (first | decide | assumption | omega)) only [i_push, i_null, i_ild, i_ald, i_ist, i_ast, i_inc, i_bin, i_div, i_un, i_dup, i_pop, i_dup2, i_if, i_icmp, i_nul, i_nnl, i_goto, i_getf, i_putf, i_gets, i_nald, i_nast, i_aald, i_aast, i_alen, i_new, i_newa, i_newq, i_math, i_oini, i_iret, i_zret, i_aret, i_vret, z_fit, List.getElem?_cons_zero, List.getElem?_cons_succ, List.set_cons_zero, List.set_cons_succ, Nat.reduceAdd, Nat.reduceLT, Nat.reduceLeDiff, Nat.reduceEqDiff, Nat.zero_lt_succ, Value.category, true_and, or_true, true_or, and_true, false_implies, true_implies, not_false_eq_true, not_true_eq_false, List.map_cons, List.map_nil, List.sum_cons, List.sum_nil, va_up_eq, bx_uu, va_up_lit, List.length_cons, List.length_nil, List.drop_succ_cons, List.drop_zero, Option.toList_some, Option.toList_none, List.cons_append, List.nil_append]))
    refine hP _ _ ⟨rfl, n', den', S', A', ?_, ?_, ⟨hx.1, by have := hx.2.1; omega, hx.2.2⟩, hS, hA, hf⟩
    · unfold inc prt; rw [if_pos hk, if_pos hk]; exact hV'
    · unfold prt; rw [if_pos hk]; exact hB'
  · have w : (0 : Int32) ≤ nI z := nI_pos' (by have := hW.2.2.1; omega)
    rw [ek, hx2, e8] at o
    (repeat (refine zS_one rfl ?_; simp (disch := (first | decide | assumption | omega)) only [i_push, i_null, i_ild, i_ald, i_ist, i_ast, i_inc, i_bin, i_div, i_un, i_dup, i_pop, i_dup2, i_if, i_icmp, i_nul, i_nnl, i_goto, i_getf, i_putf, i_gets, i_nald, i_nast, i_aald, i_aast, i_alen, i_new, i_newa, i_newq, i_math, i_oini, i_iret, i_zret, i_aret, i_vret, z_fit, List.getElem?_cons_zero, List.getElem?_cons_succ, List.set_cons_zero, List.set_cons_succ, Nat.reduceAdd, Nat.reduceLT, Nat.reduceLeDiff, Nat.reduceEqDiff, Nat.zero_lt_succ, Value.category, true_and, or_true, true_or, and_true, false_implies, true_implies, not_false_eq_true, not_true_eq_false, List.map_cons, List.map_nil, List.sum_cons, List.sum_nil, va_up_eq, bx_uu, va_up_lit, List.length_cons, List.length_nil, List.drop_succ_cons, List.drop_zero, Option.toList_some, Option.toList_none, List.cons_append, List.nil_append, o, w]))
    (try refine zS_one rfl ?_)
    refine r_callV (c_term sc (d + 3) hW (by omega) (τ := nd 8 (I 6).toInt 0 (Θ 2) (Θ 0) (den t)) (Or.inr (Or.inr (Or.inr (Or.inr (Or.inr ⟨rfl, z, x, t, hz, hx1, ht, rfl, rfl, rfl, by rw [edz, hx3]⟩)))))) rfl rfl rfl rfl hW.f (Nat.le_refl _) (Nat.le_refl _) ?_
    rintro r h1 ⟨u, n1, den1, S1, A1, rfl, hu, ed, hW1, hx, hS, hA, hf⟩
    have o1 := hW1.o
    have hV1 := hV.grow hW1 hx hS hA
    have e81 : S1 8 = I 6 := (hS 8 (by decide)).trans e8
    rw [e81] at o1
    have hn1 : n1 ≤ n + 1 := hx.2.1
    have hV2 : ∀ fs, fs = mF (va_up S1 8 (I 6 + 1)) → MV (va_up h1.1 15 (.inr (6, fs)), h1.2) (va_up S1 8 (I 6 + 1)) A1 n1 den1 s (inc I Θ) Θ := by
      intro fs hfs
      obtain ⟨-, z1, z2, z3, z4, z5, ⟨z6, z6a, z6b, z6c⟩, ⟨za, zb, zc, zd⟩, zi⟩ := hV1
      unfold inc
      rw [if_neg hk]
      refine ⟨hW1.fld hfs (va_up_lit _ _ _ _ (by decide)), z1, (va_up_lit _ _ _ _ (by decide)).trans z2, ?_, ?_, ?_, ⟨?_, ?_, ?_, ?_⟩, ⟨?_, ?_, ?_, ?_⟩, ?_⟩
      · rw [va_up_lit _ _ _ _ (by decide)]; exact z3
      · rw [va_up_lit _ _ _ _ (by decide)]; exact z4
      · rw [va_up_lit _ _ _ _ (by decide)]; exact z5
      · rw [va_up_eq, va_up_eq]
      · rw [va_up_lit _ _ _ _ (by decide), va_up_lit _ _ _ _ (by decide)]; exact z6a
      · rw [va_up_lit _ _ _ _ (by decide), va_up_lit _ _ _ _ (by decide)]; exact z6b
      · rw [va_up_lit _ _ _ _ (by decide), va_up_lit _ _ _ _ (by decide)]; exact z6c
      · rw [va_up_lit _ _ _ _ (by decide)]; exact za
      · rw [va_up_lit _ _ _ _ (by decide)]; exact zb
      · rw [va_up_lit _ _ _ _ (by decide)]; exact zc
      · rw [va_up_lit _ _ _ _ (by decide)]; exact zd
      · unfold iOK at zi ⊢
        rw [va_up_lit _ _ _ _ (by decide), va_up_lit _ _ _ _ (by decide), va_up_lit _ _ _ _ (by decide), va_up_lit _ _ _ _ (by decide), va_up_lit _ _ _ _ (by decide), va_up_lit _ _ _ _ (by decide), va_up_lit _ _ _ _ (by decide)]
        exact zi
    have hB2 : pB (va_up S1 8 (I 6 + 1)) A1 n1 den1 l := hB.ext hx ((va_up_lit _ _ _ _ (by decide)).trans (hS 12 (by decide))) (hA 43 (by decide))
    (repeat (refine zS_one rfl ?_; simp (disch := (first | decide | assumption | omega)) only [i_push, i_null, i_ild, i_ald, i_ist, i_ast, i_inc, i_bin, i_div, i_un, i_dup, i_pop, i_dup2, i_if, i_icmp, i_nul, i_nnl, i_goto, i_getf, i_putf, i_gets, i_nald, i_nast, i_aald, i_aast, i_alen, i_new, i_newa, i_newq, i_math, i_oini, i_iret, i_zret, i_aret, i_vret, z_fit, List.getElem?_cons_zero, List.getElem?_cons_succ, List.set_cons_zero, List.set_cons_succ, Nat.reduceAdd, Nat.reduceLT, Nat.reduceLeDiff, Nat.reduceEqDiff, Nat.zero_lt_succ, Value.category, true_and, or_true, true_or, and_true, false_implies, true_implies, not_false_eq_true, not_true_eq_false, List.map_cons, List.map_nil, List.sum_cons, List.sum_nil, va_up_eq, bx_uu, va_up_lit, List.length_cons, List.length_nil, List.drop_succ_cons, List.drop_zero, Option.toList_some, Option.toList_none, List.cons_append, List.nil_append, o1]))
    (try refine zS_one rfl ?_)
    refine r_callV (c_MaddPart sc d (hV2 _ (by unfold mF; simp (disch := decide) only [va_up_eq, va_up_lit])) hB2 hl (by omega) hu) rfl rfl rfl rfl rfl (Nat.le_refl _) (Nat.le_refl _) ?_
    rintro r h2 ⟨rfl, n', den', S', A', hV', hB', hx', hS', hA', hf'⟩
    rw [ed] at hV' hB'
    (repeat (refine zS_one rfl ?_; simp (disch := (first | decide | assumption | omega)) only [i_push, i_null, i_ild, i_ald, i_ist, i_ast, i_inc, i_bin, i_div, i_un, i_dup, i_pop, i_dup2, i_if, i_icmp, i_nul, i_nnl, i_goto, i_getf, i_putf, i_gets, i_nald, i_nast, i_aald, i_aast, i_alen, i_new, i_newa, i_newq, i_math, i_oini, i_iret, i_zret, i_aret, i_vret, z_fit, List.getElem?_cons_zero, List.getElem?_cons_succ, List.set_cons_zero, List.set_cons_succ, Nat.reduceAdd, Nat.reduceLT, Nat.reduceLeDiff, Nat.reduceEqDiff, Nat.zero_lt_succ, Value.category, true_and, or_true, true_or, and_true, false_implies, true_implies, not_false_eq_true, not_true_eq_false, List.map_cons, List.map_nil, List.sum_cons, List.sum_nil, va_up_eq, bx_uu, va_up_lit, List.length_cons, List.length_nil, List.drop_succ_cons, List.drop_zero, Option.toList_some, Option.toList_none, List.cons_append, List.nil_append]))
    refine hP _ _ ⟨rfl, n', den', S', A', ?_, ?_, hx.tr hx', fun q hq => ?_, fun p h1 h2 => ?_, (hf.tr (frN.put (by decide) (by decide))).tr hf'⟩
    · unfold prt; rw [if_neg hk]; exact hV'
    · unfold prt; rw [if_neg hk]; exact hB'
    · rw [hS' q hq, va_up_lit _ _ _ _ (by omega), hS q (by omega)]
    · rw [hA' p h1 h2, hA p h1]
end MO5
