/-- a session whose channel, payload and count have gone on -/
theorem sOK_ch {h h' : zH} {b n n' c sk rk : Nat} {den den' : Nat → zT} {I I' : Nat → Int32} {Θ : Nat → zT} {K' : Nat → Int32} (hA : aOK h (b + 3) n den I Θ) (hJ : aAny h (b + 4)) (h8 : I 8 = 0 ∨ I 8 = 1) (hx : exq n den n' den' c) (hI : ∀ q, q < 10 → I' q = I q) (hk : keyed n' den' I Θ sk rk) (h1 : h'.1 b = .inr (3, sF b I')) (h2 : h'.1 (b + 1) = .inr (1, cF (b + 1) sk rk I')) (h3 : h'.1 (b + 1 + 1) = .inl (1, 60, .inl K')) (h4 : h'.1 (b + 3) = h.1 (b + 3)) (h5 : h'.1 (b + 4) = h.1 (b + 4)) : sOK h' b n' den' I' Θ K' := by
  obtain ⟨x, y, z, ea, hx, hy, hz, hi⟩ := hA.ext hx h4
  obtain ⟨J, hJ1, hJ2⟩ := hJ
  refine ⟨h1, ⟨sk, rk, h2, fun _ => ?_⟩, h3, ⟨x, y, z, ?_, hx, hy, hz, ?_⟩, ⟨J, hJ1, h5.trans hJ2⟩, by rw [hI 8 (by decide)]; exact h8⟩
  · unfold keyed skT rkT at *
    rw [hI 1 (by decide)]
    exact hk
  · rw [ea]
    unfold aF
    rw [hI 0 (by decide), hI 1 (by decide), hI 2 (by decide), hI 3 (by decide), hI 4 (by decide), hI 5 (by decide), hI 6 (by decide), hI 7 (by decide)]
  · unfold iOK at hi ⊢
    rw [hI 0 (by decide), hI 1 (by decide), hI 2 (by decide), hI 3 (by decide), hI 4 (by decide), hI 5 (by decide), hI 7 (by decide)]
    exact hi
def rowI (I : Nat → Int32) : Nat := (I 0).toNatClampNeg * 3 + (I 7).toNatClampNeg
theorem row_of {I : Nat → Int32} (hi : iOK I) (h7 : I 7 < lim I) : ∃ p st, I 0 = nI p ∧ I 7 = nI st ∧ p * 3 + st ≤ 4 ∧ st < 3 ∧ rowI I = p * 3 + st := by
  obtain ⟨⟨p, hp, e0⟩, -, -, -, -, -, ⟨s, hs, e7⟩⟩ := hi
  refine ⟨p, s, e0, e7, ?_, ?_, ?_⟩
  · unfold lim at h7
    rw [e0, e7] at h7
    rcases (show p = 0 ∨ p = 1 by omega) with rfl | rfl <;> rcases (show s = 0 ∨ s = 1 ∨ s = 2 ∨ s = 3 by omega) with rfl | rfl | rfl | rfl <;> first | omega | (exact absurd h7 (by decide))
  · unfold lim at h7
    rw [e0, e7] at h7
    rcases (show p = 0 ∨ p = 1 by omega) with rfl | rfl <;> rcases (show s = 0 ∨ s = 1 ∨ s = 2 ∨ s = 3 by omega) with rfl | rfl | rfl | rfl <;> first | omega | (exact absurd h7 (by decide))
  · unfold rowI
    rw [e0, e7, nI_clamp (by omega), nI_clamp (by omega)]
def noteI (I : Nat → Int32) (v : Int32) : Nat → Int32 := va_up (va_up I 10 v) 11 (I 11 + 1)
def topI (I : Nat → Int32) (v : Int32) : Nat → Int32 := va_up I 13 (if I 13 < v then v else I 13)
section ST5
variable {h0 : zH} {ns n k m : Nat} {den : Nat → zT} {G : Nat → Int32} {ps : Nat → List zT} {V : Nat → zV}
def sndL (v : zV) (pay : Int32) : List zT := [tN (v.1 12), nd 8 (v.1 12).toInt 0 (skT v.1 v.2.1) (tN 0) (tN pay)]
def sndQ (h0 : zH) (ns n k : Nat) (den : Nat → zT) (G : Nat → Int32) (m : Nat) (ps : Nat → List zT) (V : Nat → zV) (i pay : Int32) : zP := fun r h' =>
  (r = some (.int (-1)) ∧ h' = h0 ∧ ∀ s, s < ns → i ≠ nI s) ∨ ∃ s, s < ns ∧ i = nI s ∧ (
    (r = some (.int (-2)) ∧ h' = h0 ∧ ¬ (V s).1 8 = 0)
    ∨ (r = some (.int (-3)) ∧ h' = h0 ∧ (V s).1 8 = 0 ∧ (V s).1 7 < lim (V s).1)
    ∨ (r = some (.int (-4)) ∧ h' = h0 ∧ (V s).1 8 = 0 ∧ ¬ (V s).1 7 < lim (V s).1 ∧ m = 60)
    ∨ (r = some (.int (nI m)) ∧ (V s).1 8 = 0 ∧ ¬ (V s).1 7 < lim (V s).1 ∧ m < 60 ∧ frM h0 h' ∧ ∃ n' den', exq n den n' den' 4 ∧ cOK h' ns n' k den' G (m + 1) (va_up ps m (sndL (V s) pay)) (va_up V s (va_up (V s).1 12 ((V s).1 12 + 1), (V s).2))))
set_option maxHeartbeats 4000000 in
theorem c_Stsend (sc : Nat × (Nat → Int32)) (d : Nat) (hC : cOK h0 ns n k den G m ps V) (hps : ps m = []) (hn : n + 4 < 720) (i pay : Int32) : zMt zTab sc (d + 5) 59 [.ref 0, .int i, .int pay] h0 0 0 (sndQ h0 ns n k den G m ps V i pay) := by
  have hT := hC.2.2.2.1
  have hM := hC.2.2.2.2.1
  have e0 := hC.1
  have q10 : ¬ (1 : Int32) = 0 := by decide
  refine zM_gen fun P hP => ?_
  refine zM_start (r := r_St_send) (cd := k_St_send) (L0 := [some (.ref 0), some (.int i), some (.int pay), none]) rfl rfl rfl rfl rfl ?_
  (repeat (refine zS_one rfl ?_; simp (disch := (first | decide | assumption | omega)) only [i_push, i_null, i_ild, i_ald, i_ist, i_ast, i_inc, i_bin, i_div, i_un, i_dup, i_pop, i_dup2, i_if, i_icmp, i_nul, i_nnl, i_goto, i_getf, i_putf, i_gets, i_nald, i_nast, i_aald, i_aast, i_alen, i_new, i_newa, i_newq, i_math, i_oini, i_iret, i_zret, i_aret, i_vret, z_fit, List.getElem?_cons_zero, List.getElem?_cons_succ, List.set_cons_zero, List.set_cons_succ, Nat.reduceAdd, Nat.reduceLT, Nat.reduceLeDiff, Nat.reduceEqDiff, Nat.zero_lt_succ, Value.category, true_and, or_true, true_or, and_true, false_implies, true_implies, not_false_eq_true, not_true_eq_false, List.map_cons, List.map_nil, List.sum_cons, List.sum_nil, va_up_eq, bx_uu, va_up_lit, List.length_cons, List.length_nil, List.drop_succ_cons, List.drop_zero, Option.toList_some, Option.toList_none, List.cons_append, List.nil_append]))
  (try refine zS_one rfl ?_)
  refine r_callV (c_sessionAt sc (d + 3) hC i) rfl rfl rfl rfl hC.1 (Nat.le_refl _) (Nat.le_refl _) ?_
  rintro r h' ⟨rfl, ⟨s, hs, rfl, rfl⟩ | ⟨rfl, hno⟩⟩
  rotate_left
  · (repeat (refine zS_one rfl ?_; simp (disch := (first | decide | assumption | omega)) only [i_push, i_null, i_ild, i_ald, i_ist, i_ast, i_inc, i_bin, i_div, i_un, i_dup, i_pop, i_dup2, i_if, i_icmp, i_nul, i_nnl, i_goto, i_getf, i_putf, i_gets, i_nald, i_nast, i_aald, i_aast, i_alen, i_new, i_newa, i_newq, i_math, i_oini, i_iret, i_zret, i_aret, i_vret, z_fit, List.getElem?_cons_zero, List.getElem?_cons_succ, List.set_cons_zero, List.set_cons_succ, Nat.reduceAdd, Nat.reduceLT, Nat.reduceLeDiff, Nat.reduceEqDiff, Nat.zero_lt_succ, Value.category, true_and, or_true, true_or, and_true, false_implies, true_implies, not_false_eq_true, not_true_eq_false, List.map_cons, List.map_nil, List.sum_cons, List.sum_nil, va_up_eq, bx_uu, va_up_lit, List.length_cons, List.length_nil, List.drop_succ_cons, List.drop_zero, Option.toList_some, Option.toList_none, List.cons_append, List.nil_append]))
    exact hP _ _ (Or.inl ⟨rfl, rfl, hno⟩)
  have hS := hC.2.2.2.2.2.1 s hs
  obtain ⟨e1, ⟨sk, rk, e2, hk1⟩, e3, hA, hJ, h8⟩ := hS
  obtain ⟨x, y, z, ea, -, -, -, hI1⟩ := id hA
  have e1' := e1
  unfold sF at e1
  by_cases hc : (V s).1 8 = 0
  rotate_left
  · (repeat (refine zS_one rfl ?_; simp (disch := (first | decide | assumption | omega)) only [i_push, i_null, i_ild, i_ald, i_ist, i_ast, i_inc, i_bin, i_div, i_un, i_dup, i_pop, i_dup2, i_if, i_icmp, i_nul, i_nnl, i_goto, i_getf, i_putf, i_gets, i_nald, i_nast, i_aald, i_aast, i_alen, i_new, i_newa, i_newq, i_math, i_oini, i_iret, i_zret, i_aret, i_vret, z_fit, List.getElem?_cons_zero, List.getElem?_cons_succ, List.set_cons_zero, List.set_cons_succ, Nat.reduceAdd, Nat.reduceLT, Nat.reduceLeDiff, Nat.reduceEqDiff, Nat.zero_lt_succ, Value.category, true_and, or_true, true_or, and_true, false_implies, true_implies, not_false_eq_true, not_true_eq_false, List.map_cons, List.map_nil, List.sum_cons, List.sum_nil, va_up_eq, bx_uu, va_up_lit, List.length_cons, List.length_nil, List.drop_succ_cons, List.drop_zero, Option.toList_some, Option.toList_none, List.cons_append, List.nil_append, e1, hc]))
    exact hP _ _ (Or.inr ⟨s, hs, rfl, Or.inl ⟨rfl, rfl, hc⟩⟩)
  (repeat (refine zS_one rfl ?_; simp (disch := (first | decide | assumption | omega)) only [i_push, i_null, i_ild, i_ald, i_ist, i_ast, i_inc, i_bin, i_div, i_un, i_dup, i_pop, i_dup2, i_if, i_icmp, i_nul, i_nnl, i_goto, i_getf, i_putf, i_gets, i_nald, i_nast, i_aald, i_aast, i_alen, i_new, i_newa, i_newq, i_math, i_oini, i_iret, i_zret, i_aret, i_vret, z_fit, List.getElem?_cons_zero, List.getElem?_cons_succ, List.set_cons_zero, List.set_cons_succ, Nat.reduceAdd, Nat.reduceLT, Nat.reduceLeDiff, Nat.reduceEqDiff, Nat.zero_lt_succ, Value.category, true_and, or_true, true_or, and_true, false_implies, true_implies, not_false_eq_true, not_true_eq_false, List.map_cons, List.map_nil, List.sum_cons, List.sum_nil, va_up_eq, bx_uu, va_up_lit, List.length_cons, List.length_nil, List.drop_succ_cons, List.drop_zero, Option.toList_some, Option.toList_none, List.cons_append, List.nil_append, e1, hc]))
  (try refine zS_one rfl ?_)
  refine r_callV (c_isDone sc (d + 3) ea) rfl rfl rfl rfl ea (Nat.le_refl _) (Nat.le_refl _) ?_
  rintro r h' ⟨rfl, ⟨rfl, hd⟩ | ⟨rfl, hd⟩⟩
  rotate_left
  · (repeat (refine zS_one rfl ?_; simp (disch := (first | decide | assumption | omega)) only [i_push, i_null, i_ild, i_ald, i_ist, i_ast, i_inc, i_bin, i_div, i_un, i_dup, i_pop, i_dup2, i_if, i_icmp, i_nul, i_nnl, i_goto, i_getf, i_putf, i_gets, i_nald, i_nast, i_aald, i_aast, i_alen, i_new, i_newa, i_newq, i_math, i_oini, i_iret, i_zret, i_aret, i_vret, z_fit, List.getElem?_cons_zero, List.getElem?_cons_succ, List.set_cons_zero, List.set_cons_succ, Nat.reduceAdd, Nat.reduceLT, Nat.reduceLeDiff, Nat.reduceEqDiff, Nat.zero_lt_succ, Value.category, true_and, or_true, true_or, and_true, false_implies, true_implies, not_false_eq_true, not_true_eq_false, List.map_cons, List.map_nil, List.sum_cons, List.sum_nil, va_up_eq, bx_uu, va_up_lit, List.length_cons, List.length_nil, List.drop_succ_cons, List.drop_zero, Option.toList_some, Option.toList_none, List.cons_append, List.nil_append]))
    exact hP _ _ (Or.inr ⟨s, hs, rfl, Or.inr (Or.inl ⟨rfl, rfl, hc, hd⟩)⟩)
  (repeat (refine zS_one rfl ?_; simp (disch := (first | decide | assumption | omega)) only [i_push, i_null, i_ild, i_ald, i_ist, i_ast, i_inc, i_bin, i_div, i_un, i_dup, i_pop, i_dup2, i_if, i_icmp, i_nul, i_nnl, i_goto, i_getf, i_putf, i_gets, i_nald, i_nast, i_aald, i_aast, i_alen, i_new, i_newa, i_newq, i_math, i_oini, i_iret, i_zret, i_aret, i_vret, z_fit, List.getElem?_cons_zero, List.getElem?_cons_succ, List.set_cons_zero, List.set_cons_succ, Nat.reduceAdd, Nat.reduceLT, Nat.reduceLeDiff, Nat.reduceEqDiff, Nat.zero_lt_succ, Value.category, true_and, or_true, true_or, and_true, false_implies, true_implies, not_false_eq_true, not_true_eq_false, List.map_cons, List.map_nil, List.sum_cons, List.sum_nil, va_up_eq, bx_uu, va_up_lit, List.length_cons, List.length_nil, List.drop_succ_cons, List.drop_zero, Option.toList_some, Option.toList_none, List.cons_append, List.nil_append, q10, e0]))
  (try refine zS_one rfl ?_)
  refine r_callV (c_isFull sc (d + 3) hM) rfl rfl rfl rfl hM.o (Nat.le_refl _) (Nat.le_refl _) ?_
  rintro r h' ⟨rfl, ⟨rfl, hm⟩ | ⟨rfl, hm⟩⟩
  · (repeat (refine zS_one rfl ?_; simp (disch := (first | decide | assumption | omega)) only [i_push, i_null, i_ild, i_ald, i_ist, i_ast, i_inc, i_bin, i_div, i_un, i_dup, i_pop, i_dup2, i_if, i_icmp, i_nul, i_nnl, i_goto, i_getf, i_putf, i_gets, i_nald, i_nast, i_aald, i_aast, i_alen, i_new, i_newa, i_newq, i_math, i_oini, i_iret, i_zret, i_aret, i_vret, z_fit, List.getElem?_cons_zero, List.getElem?_cons_succ, List.set_cons_zero, List.set_cons_succ, Nat.reduceAdd, Nat.reduceLT, Nat.reduceLeDiff, Nat.reduceEqDiff, Nat.zero_lt_succ, Value.category, true_and, or_true, true_or, and_true, false_implies, true_implies, not_false_eq_true, not_true_eq_false, List.map_cons, List.map_nil, List.sum_cons, List.sum_nil, va_up_eq, bx_uu, va_up_lit, List.length_cons, List.length_nil, List.drop_succ_cons, List.drop_zero, Option.toList_some, Option.toList_none, List.cons_append, List.nil_append, q10]))
    exact hP _ _ (Or.inr ⟨s, hs, rfl, Or.inr (Or.inr (Or.inl ⟨rfl, rfl, hc, hd, hm⟩))⟩)
  obtain ⟨⟨s1, s2, s3⟩, hrk⟩ := hk1 hd
  (repeat (refine zS_one rfl ?_; simp (disch := (first | decide | assumption | omega)) only [i_push, i_null, i_ild, i_ald, i_ist, i_ast, i_inc, i_bin, i_div, i_un, i_dup, i_pop, i_dup2, i_if, i_icmp, i_nul, i_nnl, i_goto, i_getf, i_putf, i_gets, i_nald, i_nast, i_aald, i_aast, i_alen, i_new, i_newa, i_newq, i_math, i_oini, i_iret, i_zret, i_aret, i_vret, z_fit, List.getElem?_cons_zero, List.getElem?_cons_succ, List.set_cons_zero, List.set_cons_succ, Nat.reduceAdd, Nat.reduceLT, Nat.reduceLeDiff, Nat.reduceEqDiff, Nat.zero_lt_succ, Value.category, true_and, or_true, true_or, and_true, false_implies, true_implies, not_false_eq_true, not_true_eq_false, List.map_cons, List.map_nil, List.sum_cons, List.sum_nil, va_up_eq, bx_uu, va_up_lit, List.length_cons, List.length_nil, List.drop_succ_cons, List.drop_zero, Option.toList_some, Option.toList_none, List.cons_append, List.nil_append, e0, e1]))
  (try refine zS_one rfl ?_)
  refine r_callV (c_sendNext sc d (c := 44 + 5 * s + 1) (I := (V s).1) (Θ := (V s).2.1) (by omega) hT hM hm hps hn e2 ⟨s1, s2, s3⟩ pay) rfl rfl rfl rfl e2 (Nat.le_refl _) (Nat.le_refl _) ?_
  rintro r h1 ⟨rfl, n', den', hx, hT1, hM1, g1, g2, g3⟩
  have hk' : keyed n' den' (V s).1 (V s).2.1 sk rk := (show keyed n den (V s).1 (V s).2.1 sk rk from ⟨⟨s1, s2, s3⟩, hrk⟩).ext hx
  have hS1 : sOK h1 (44 + 5 * s) n' den' (va_up (V s).1 12 ((V s).1 12 + 1)) (V s).2.1 (V s).2.2 := by
    refine sOK_ch hA hJ h8 hx (fun q hq => va_up_lit _ _ _ _ (by omega)) hk' ?_ g1 (g3.trans e3) (g2.1 _ (by omega) (by omega) (by omega)) (g2.1 _ (by omega) (by omega) (by omega))
    rw [g2.1 _ (by omega) (by omega) (by omega), e1']
    unfold sF
    rw [va_up_lit _ _ _ _ (by omega), va_up_lit _ _ _ _ (by omega), va_up_lit _ _ _ _ (by omega), va_up_lit _ _ _ _ (by omega)]
  have hC1 := hC.step (v := (va_up (V s).1 12 ((V s).1 12 + 1), (V s).2)) hs hx hT1 hM1 hS1 g2.S
  have e0' := hC1.1
  (repeat (refine zS_one rfl ?_; simp (disch := (first | decide | assumption | omega)) only [i_push, i_null, i_ild, i_ald, i_ist, i_ast, i_inc, i_bin, i_div, i_un, i_dup, i_pop, i_dup2, i_if, i_icmp, i_nul, i_nnl, i_goto, i_getf, i_putf, i_gets, i_nald, i_nast, i_aald, i_aast, i_alen, i_new, i_newa, i_newq, i_math, i_oini, i_iret, i_zret, i_aret, i_vret, z_fit, List.getElem?_cons_zero, List.getElem?_cons_succ, List.set_cons_zero, List.set_cons_succ, Nat.reduceAdd, Nat.reduceLT, Nat.reduceLeDiff, Nat.reduceEqDiff, Nat.zero_lt_succ, Value.category, true_and, or_true, true_or, and_true, false_implies, true_implies, not_false_eq_true, not_true_eq_false, List.map_cons, List.map_nil, List.sum_cons, List.sum_nil, va_up_eq, bx_uu, va_up_lit, List.length_cons, List.length_nil, List.drop_succ_cons, List.drop_zero, Option.toList_some, Option.toList_none, List.cons_append, List.nil_append, e0']))
  (try refine zS_one rfl ?_)
  refine r_callV (c_finish sc (d + 3) hM1 hm) rfl rfl rfl rfl hM1.o (Nat.le_refl _) (Nat.le_refl _) ?_
  rintro r h2 ⟨rfl, hM2, hf2⟩
  have hC2 := hC1.tm (c := 0) exq.rf (hT1.same' hf2 (by decide)) hM2 (hf2.up (by decide) (by decide))
  (repeat (refine zS_one rfl ?_; simp (disch := (first | decide | assumption | omega)) only [i_push, i_null, i_ild, i_ald, i_ist, i_ast, i_inc, i_bin, i_div, i_un, i_dup, i_pop, i_dup2, i_if, i_icmp, i_nul, i_nnl, i_goto, i_getf, i_putf, i_gets, i_nald, i_nast, i_aald, i_aast, i_alen, i_new, i_newa, i_newq, i_math, i_oini, i_iret, i_zret, i_aret, i_vret, z_fit, List.getElem?_cons_zero, List.getElem?_cons_succ, List.set_cons_zero, List.set_cons_succ, Nat.reduceAdd, Nat.reduceLT, Nat.reduceLeDiff, Nat.reduceEqDiff, Nat.zero_lt_succ, Value.category, true_and, or_true, true_or, and_true, false_implies, true_implies, not_false_eq_true, not_true_eq_false, List.map_cons, List.map_nil, List.sum_cons, List.sum_nil, va_up_eq, bx_uu, va_up_lit, List.length_cons, List.length_nil, List.drop_succ_cons, List.drop_zero, Option.toList_some, Option.toList_none, List.cons_append, List.nil_append]))
  exact hP _ _ (Or.inr ⟨s, hs, rfl, Or.inr (Or.inr (Or.inr ⟨rfl, hc, hd, hm, (g2.S.M (by omega)).tr (hf2.M (by decide)), n', den', hx, hC2⟩))⟩)
def wrQ (h0 : zH) (ns n k : Nat) (den : Nat → zT) (G : Nat → Int32) (m : Nat) (ps : Nat → List zT) (V : Nat → zV) (i pay : Int32) : zP := fun r h' =>
  (r = some (.int (-1)) ∧ h' = h0 ∧ ∀ s, s < ns → i ≠ nI s) ∨ ∃ s, s < ns ∧ i = nI s ∧ (
    (r = some (.int (-2)) ∧ h' = h0 ∧ ¬ (V s).1 8 = 0)
    ∨ (r = some (.int (-3)) ∧ h' = h0 ∧ (V s).1 8 = 0 ∧ ¬ myT (V s).1)
    ∨ (r = some (.int (-4)) ∧ h' = h0 ∧ (V s).1 8 = 0 ∧ myT (V s).1 ∧ m = 60)
    ∨ (r = some (.int (nI m)) ∧ (V s).1 8 = 0 ∧ myT (V s).1 ∧ m < 60 ∧ frM h0 h' ∧ ∃ n' den', exq n den n' den' (crow (rowI (V s).1) + 5) ∧ cOK h' ns n' (wpay pay (wrow (rowI (V s).1) ((V s).1, (V s).2.1, [], k))).2.2.2 den' G (m + 1) (va_up ps m (wpay pay (wrow (rowI (V s).1) ((V s).1, (V s).2.1, [], k))).2.2.1) (va_up V s (endI (wpay pay (wrow (rowI (V s).1) ((V s).1, (V s).2.1, [], k))).1, (wpay pay (wrow (rowI (V s).1) ((V s).1, (V s).2.1, [], k))).2.1, (V s).2.2))))
set_option maxHeartbeats 4000000 in
theorem c_Stwrite (sc : Nat × (Nat → Int32)) (d : Nat) (hC : cOK h0 ns n k den G m ps V) (hps : ps m = []) (hn : n + 18 < 720) (i pay : Int32) (hk : ∀ s, s < ns → i = nI s → rowI (V s).1 ≠ 2 → myT (V s).1 → k < 20) : zMt zTab sc (d + 8) 58 [.ref 0, .int i, .int pay] h0 0 0 (wrQ h0 ns n k den G m ps V i pay) := by
  have hT := hC.2.2.2.1
  have hM := hC.2.2.2.2.1
  have e0 := hC.1
  have q10 : ¬ (1 : Int32) = 0 := by decide
  refine zM_gen fun P hP => ?_
  refine zM_start (r := r_St_write) (cd := k_St_write) (L0 := [some (.ref 0), some (.int i), some (.int pay), none]) rfl rfl rfl rfl rfl ?_
  (repeat (refine zS_one rfl ?_; simp (disch := (first | decide | assumption | omega)) only [i_push, i_null, i_ild, i_ald, i_ist, i_ast, i_inc, i_bin, i_div, i_un, i_dup, i_pop, i_dup2, i_if, i_icmp, i_nul, i_nnl, i_goto, i_getf, i_putf, i_gets, i_nald, i_nast, i_aald, i_aast, i_alen, i_new, i_newa, i_newq, i_math, i_oini, i_iret, i_zret, i_aret, i_vret, z_fit, List.getElem?_cons_zero, List.getElem?_cons_succ, List.set_cons_zero, List.set_cons_succ, Nat.reduceAdd, Nat.reduceLT, Nat.reduceLeDiff, Nat.reduceEqDiff, Nat.zero_lt_succ, Value.category, true_and, or_true, true_or, and_true, false_implies, true_implies, not_false_eq_true, not_true_eq_false, List.map_cons, List.map_nil, List.sum_cons, List.sum_nil, va_up_eq, bx_uu, va_up_lit, List.length_cons, List.length_nil, List.drop_succ_cons, List.drop_zero, Option.toList_some, Option.toList_none, List.cons_append, List.nil_append]))
  (try refine zS_one rfl ?_)
  refine r_callV (c_sessionAt sc (d + 6) hC i) rfl rfl rfl rfl hC.1 (Nat.le_refl _) (Nat.le_refl _) ?_
  rintro r h' ⟨rfl, ⟨s, hs, rfl, rfl⟩ | ⟨rfl, hno⟩⟩
  rotate_left
  · (repeat (refine zS_one rfl ?_; simp (disch := (first | decide | assumption | omega)) only [i_push, i_null, i_ild, i_ald, i_ist, i_ast, i_inc, i_bin, i_div, i_un, i_dup, i_pop, i_dup2, i_if, i_icmp, i_nul, i_nnl, i_goto, i_getf, i_putf, i_gets, i_nald, i_nast, i_aald, i_aast, i_alen, i_new, i_newa, i_newq, i_math, i_oini, i_iret, i_zret, i_aret, i_vret, z_fit, List.getElem?_cons_zero, List.getElem?_cons_succ, List.set_cons_zero, List.set_cons_succ, Nat.reduceAdd, Nat.reduceLT, Nat.reduceLeDiff, Nat.reduceEqDiff, Nat.zero_lt_succ, Value.category, true_and, or_true, true_or, and_true, false_implies, true_implies, not_false_eq_true, not_true_eq_false, List.map_cons, List.map_nil, List.sum_cons, List.sum_nil, va_up_eq, bx_uu, va_up_lit, List.length_cons, List.length_nil, List.drop_succ_cons, List.drop_zero, Option.toList_some, Option.toList_none, List.cons_append, List.nil_append]))
    exact hP _ _ (Or.inl ⟨rfl, rfl, hno⟩)
  have hS := hC.2.2.2.2.2.1 s hs
  obtain ⟨e1, ⟨sk, rk, e2, hk1⟩, e3, hA, hJ, h8⟩ := id hS
  obtain ⟨x, y, z, ea, -, -, -, hI1⟩ := id hA
  have e1' := e1
  unfold sF at e1
  by_cases hc : (V s).1 8 = 0
  rotate_left
  · (repeat (refine zS_one rfl ?_; simp (disch := (first | decide | assumption | omega)) only [i_push, i_null, i_ild, i_ald, i_ist, i_ast, i_inc, i_bin, i_div, i_un, i_dup, i_pop, i_dup2, i_if, i_icmp, i_nul, i_nnl, i_goto, i_getf, i_putf, i_gets, i_nald, i_nast, i_aald, i_aast, i_alen, i_new, i_newa, i_newq, i_math, i_oini, i_iret, i_zret, i_aret, i_vret, z_fit, List.getElem?_cons_zero, List.getElem?_cons_succ, List.set_cons_zero, List.set_cons_succ, Nat.reduceAdd, Nat.reduceLT, Nat.reduceLeDiff, Nat.reduceEqDiff, Nat.zero_lt_succ, Value.category, true_and, or_true, true_or, and_true, false_implies, true_implies, not_false_eq_true, not_true_eq_false, List.map_cons, List.map_nil, List.sum_cons, List.sum_nil, va_up_eq, bx_uu, va_up_lit, List.length_cons, List.length_nil, List.drop_succ_cons, List.drop_zero, Option.toList_some, Option.toList_none, List.cons_append, List.nil_append, e1, hc]))
    exact hP _ _ (Or.inr ⟨s, hs, rfl, Or.inl ⟨rfl, rfl, hc⟩⟩)
  (repeat (refine zS_one rfl ?_; simp (disch := (first | decide | assumption | omega)) only [i_push, i_null, i_ild, i_ald, i_ist, i_ast, i_inc, i_bin, i_div, i_un, i_dup, i_pop, i_dup2, i_if, i_icmp, i_nul, i_nnl, i_goto, i_getf, i_putf, i_gets, i_nald, i_nast, i_aald, i_aast, i_alen, i_new, i_newa, i_newq, i_math, i_oini, i_iret, i_zret, i_aret, i_vret, z_fit, List.getElem?_cons_zero, List.getElem?_cons_succ, List.set_cons_zero, List.set_cons_succ, Nat.reduceAdd, Nat.reduceLT, Nat.reduceLeDiff, Nat.reduceEqDiff, Nat.zero_lt_succ, Value.category, true_and, or_true, true_or, and_true, false_implies, true_implies, not_false_eq_true, not_true_eq_false, List.map_cons, List.map_nil, List.sum_cons, List.sum_nil, va_up_eq, bx_uu, va_up_lit, List.length_cons, List.length_nil, List.drop_succ_cons, List.drop_zero, Option.toList_some, Option.toList_none, List.cons_append, List.nil_append, e1, hc]))
  (try refine zS_one rfl ?_)
  refine r_callV (c_isOwnTurn sc (d + 5) ea) rfl rfl rfl rfl ea (Nat.le_refl _) (Nat.le_refl _) ?_
  rintro r h' ⟨rfl, ⟨rfl, hd⟩ | ⟨rfl, hd⟩⟩
  rotate_left
  · (repeat (refine zS_one rfl ?_; simp (disch := (first | decide | assumption | omega)) only [i_push, i_null, i_ild, i_ald, i_ist, i_ast, i_inc, i_bin, i_div, i_un, i_dup, i_pop, i_dup2, i_if, i_icmp, i_nul, i_nnl, i_goto, i_getf, i_putf, i_gets, i_nald, i_nast, i_aald, i_aast, i_alen, i_new, i_newa, i_newq, i_math, i_oini, i_iret, i_zret, i_aret, i_vret, z_fit, List.getElem?_cons_zero, List.getElem?_cons_succ, List.set_cons_zero, List.set_cons_succ, Nat.reduceAdd, Nat.reduceLT, Nat.reduceLeDiff, Nat.reduceEqDiff, Nat.zero_lt_succ, Value.category, true_and, or_true, true_or, and_true, false_implies, true_implies, not_false_eq_true, not_true_eq_false, List.map_cons, List.map_nil, List.sum_cons, List.sum_nil, va_up_eq, bx_uu, va_up_lit, List.length_cons, List.length_nil, List.drop_succ_cons, List.drop_zero, Option.toList_some, Option.toList_none, List.cons_append, List.nil_append]))
    exact hP _ _ (Or.inr ⟨s, hs, rfl, Or.inr (Or.inl ⟨rfl, rfl, hc, hd⟩)⟩)
  (repeat (refine zS_one rfl ?_; simp (disch := (first | decide | assumption | omega)) only [i_push, i_null, i_ild, i_ald, i_ist, i_ast, i_inc, i_bin, i_div, i_un, i_dup, i_pop, i_dup2, i_if, i_icmp, i_nul, i_nnl, i_goto, i_getf, i_putf, i_gets, i_nald, i_nast, i_aald, i_aast, i_alen, i_new, i_newa, i_newq, i_math, i_oini, i_iret, i_zret, i_aret, i_vret, z_fit, List.getElem?_cons_zero, List.getElem?_cons_succ, List.set_cons_zero, List.set_cons_succ, Nat.reduceAdd, Nat.reduceLT, Nat.reduceLeDiff, Nat.reduceEqDiff, Nat.zero_lt_succ, Value.category, true_and, or_true, true_or, and_true, false_implies, true_implies, not_false_eq_true, not_true_eq_false, List.map_cons, List.map_nil, List.sum_cons, List.sum_nil, va_up_eq, bx_uu, va_up_lit, List.length_cons, List.length_nil, List.drop_succ_cons, List.drop_zero, Option.toList_some, Option.toList_none, List.cons_append, List.nil_append, q10, e0]))
  (try refine zS_one rfl ?_)
  refine r_callV (c_isFull sc (d + 6) hM) rfl rfl rfl rfl hM.o (Nat.le_refl _) (Nat.le_refl _) ?_
  rintro r h' ⟨rfl, ⟨rfl, hm⟩ | ⟨rfl, hm⟩⟩
  · (repeat (refine zS_one rfl ?_; simp (disch := (first | decide | assumption | omega)) only [i_push, i_null, i_ild, i_ald, i_ist, i_ast, i_inc, i_bin, i_div, i_un, i_dup, i_pop, i_dup2, i_if, i_icmp, i_nul, i_nnl, i_goto, i_getf, i_putf, i_gets, i_nald, i_nast, i_aald, i_aast, i_alen, i_new, i_newa, i_newq, i_math, i_oini, i_iret, i_zret, i_aret, i_vret, z_fit, List.getElem?_cons_zero, List.getElem?_cons_succ, List.set_cons_zero, List.set_cons_succ, Nat.reduceAdd, Nat.reduceLT, Nat.reduceLeDiff, Nat.reduceEqDiff, Nat.zero_lt_succ, Value.category, true_and, or_true, true_or, and_true, false_implies, true_implies, not_false_eq_true, not_true_eq_false, List.map_cons, List.map_nil, List.sum_cons, List.sum_nil, va_up_eq, bx_uu, va_up_lit, List.length_cons, List.length_nil, List.drop_succ_cons, List.drop_zero, Option.toList_some, Option.toList_none, List.cons_append, List.nil_append, q10]))
    exact hP _ _ (Or.inr ⟨s, hs, rfl, Or.inr (Or.inr (Or.inl ⟨rfl, rfl, hc, hd, hm⟩))⟩)
  obtain ⟨p, st, p0, p7, pr, ps3, hrow⟩ := row_of hI1 hd.1
  have hk' : p * 3 + st ≠ 2 → k < 20 := fun z => hk s hs rfl (by rw [hrow]; exact z) hd
  (repeat (refine zS_one rfl ?_; simp (disch := (first | decide | assumption | omega)) only [i_push, i_null, i_ild, i_ald, i_ist, i_ast, i_inc, i_bin, i_div, i_un, i_dup, i_pop, i_dup2, i_if, i_icmp, i_nul, i_nnl, i_goto, i_getf, i_putf, i_gets, i_nald, i_nast, i_aald, i_aast, i_alen, i_new, i_newa, i_newq, i_math, i_oini, i_iret, i_zret, i_aret, i_vret, z_fit, List.getElem?_cons_zero, List.getElem?_cons_succ, List.set_cons_zero, List.set_cons_succ, Nat.reduceAdd, Nat.reduceLT, Nat.reduceLeDiff, Nat.reduceEqDiff, Nat.zero_lt_succ, Value.category, true_and, or_true, true_or, and_true, false_implies, true_implies, not_false_eq_true, not_true_eq_false, List.map_cons, List.map_nil, List.sum_cons, List.sum_nil, va_up_eq, bx_uu, va_up_lit, List.length_cons, List.length_nil, List.drop_succ_cons, List.drop_zero, Option.toList_some, Option.toList_none, List.cons_append, List.nil_append, e0]))
  (try refine zS_one rfl ?_)
  refine r_callV (c_SwriteNext sc d (b := 44 + 5 * s) (I := (V s).1) (Θ := (V s).2.1) (K := (V s).2.2) (by omega) hm hT hM hS hps p0 p7 pr ps3 hk' hn pay) rfl rfl rfl rfl e1' (Nat.le_refl _) (Nat.le_refl _) ?_
  rw [← hrow]
  rintro r h1 ⟨rfl, n', den', hx, hT1, hM1, hS1, hf1⟩
  have hC1 := hC.step (v := (endI (wpay pay (wrow (rowI (V s).1) ((V s).1, (V s).2.1, [], k))).1, (wpay pay (wrow (rowI (V s).1) ((V s).1, (V s).2.1, [], k))).2.1, (V s).2.2)) hs hx hT1 hM1 hS1 hf1
  have e0' := hC1.1
  (repeat (refine zS_one rfl ?_; simp (disch := (first | decide | assumption | omega)) only [i_push, i_null, i_ild, i_ald, i_ist, i_ast, i_inc, i_bin, i_div, i_un, i_dup, i_pop, i_dup2, i_if, i_icmp, i_nul, i_nnl, i_goto, i_getf, i_putf, i_gets, i_nald, i_nast, i_aald, i_aast, i_alen, i_new, i_newa, i_newq, i_math, i_oini, i_iret, i_zret, i_aret, i_vret, z_fit, List.getElem?_cons_zero, List.getElem?_cons_succ, List.set_cons_zero, List.set_cons_succ, Nat.reduceAdd, Nat.reduceLT, Nat.reduceLeDiff, Nat.reduceEqDiff, Nat.zero_lt_succ, Value.category, true_and, or_true, true_or, and_true, false_implies, true_implies, not_false_eq_true, not_true_eq_false, List.map_cons, List.map_nil, List.sum_cons, List.sum_nil, va_up_eq, bx_uu, va_up_lit, List.length_cons, List.length_nil, List.drop_succ_cons, List.drop_zero, Option.toList_some, Option.toList_none, List.cons_append, List.nil_append, e0']))
  (try refine zS_one rfl ?_)
  refine r_callV (c_finish sc (d + 6) hM1 hm) rfl rfl rfl rfl hM1.o (Nat.le_refl _) (Nat.le_refl _) ?_
  rintro r h2 ⟨rfl, hM2, hf2⟩
  have hC2 := hC1.tm (c := 0) exq.rf (hT1.same' hf2 (by decide)) hM2 (hf2.up (by decide) (by decide))
  (repeat (refine zS_one rfl ?_; simp (disch := (first | decide | assumption | omega)) only [i_push, i_null, i_ild, i_ald, i_ist, i_ast, i_inc, i_bin, i_div, i_un, i_dup, i_pop, i_dup2, i_if, i_icmp, i_nul, i_nnl, i_goto, i_getf, i_putf, i_gets, i_nald, i_nast, i_aald, i_aast, i_alen, i_new, i_newa, i_newq, i_math, i_oini, i_iret, i_zret, i_aret, i_vret, z_fit, List.getElem?_cons_zero, List.getElem?_cons_succ, List.set_cons_zero, List.set_cons_succ, Nat.reduceAdd, Nat.reduceLT, Nat.reduceLeDiff, Nat.reduceEqDiff, Nat.zero_lt_succ, Value.category, true_and, or_true, true_or, and_true, false_implies, true_implies, not_false_eq_true, not_true_eq_false, List.map_cons, List.map_nil, List.sum_cons, List.sum_nil, va_up_eq, bx_uu, va_up_lit, List.length_cons, List.length_nil, List.drop_succ_cons, List.drop_zero, Option.toList_some, Option.toList_none, List.cons_append, List.nil_append]))
  exact hP _ _ (Or.inr ⟨s, hs, rfl, Or.inr (Or.inr (Or.inr ⟨rfl, hc, hd, hm, (hf1.M (by omega)).tr (hf2.M (by decide)), n', den', hx, hC2⟩))⟩)
end ST5
