section AG8
variable {h0 : zH} {a n k m : Nat} {den : Nat → zT} {G : Nat → Int32} {ps : Nat → List zT} {I : Nat → Int32} {Θ : Nat → zT}
theorem isES_le (tok : Int32) : isES tok ≤ 1 := by unfold isES; split <;> decide
set_option maxHeartbeats 4000000 in
theorem c_AreadNext (sc : Nat × (Nat → Int32)) (d : Nat) (ha : 44 ≤ a) (hw : wld h0 a n k den G m ps I Θ) {p st mi : Nat} (hmi : mi < m) (h1 : I 0 = nI p) (h2 : I 7 = nI st) (hr : p * 3 + st ≤ 4) (hst : st < 3) (hn : n + 16 < 720) : zMt zTab sc (d + 6) 6 [.ref a, .ref 11, .int (nI mi)] h0 0 0 (fun r h' => (∃ I' Θ' Z u n' den', rfin (p * 3 + st) (ps mi) I Θ = some (I', Θ', Z) ∧ r = some (.int (nI u)) ∧ 0 < u ∧ u ≤ n' ∧ den' u = Z ∧ tkd Z = 1 ∧ wQ h0 a n den (crow (p * 3 + st) + 3) k G m ps I' Θ' h' n' den') ∨ (rfin (p * 3 + st) (ps mi) I Θ = none ∧ r = some (.int 0) ∧ ∃ I' Θ' n' den', wQ h0 a n den (crow (p * 3 + st) + 3) k G m ps I' Θ' h' n' den')) := by
  refine zM_gen fun P hP => ?_
  refine zM_start (r := r_Ag_readNext) (cd := k_Ag_readNext) (L0 := [some (.ref a), some (.ref 11), some (.int (nI mi)), none, none, none]) rfl rfl rfl rfl rfl ?_
  obtain ⟨l0, l1, l2, l3⟩ := crow_le (p * 3 + st) (by omega)
  have hcr : crow (p * 3 + st) ≤ 12 := by unfold crow; omega
  have tin : ∀ i, i < 4 → z_tok ((p * 3 + st) * 4 + i) = 0 ∨ z_tok ((p * 3 + st) * 4 + i) = 1 ∨ z_tok ((p * 3 + st) * 4 + i) = 2 ∨ isMix (z_tok ((p * 3 + st) * 4 + i)) := tok_in (p * 3 + st) (by omega)
  have hm6 := hw.2.1.m
  obtain ⟨x0, y0, z0, e, -⟩ := hw.2.2
  (repeat (refine zS_one rfl ?_; simp (disch := (first | decide | assumption | omega)) only [i_push, i_null, i_ild, i_ald, i_ist, i_ast, i_inc, i_bin, i_div, i_un, i_dup, i_pop, i_dup2, i_if, i_icmp, i_nul, i_nnl, i_goto, i_getf, i_putf, i_gets, i_nald, i_nast, i_aald, i_aast, i_alen, i_new, i_newa, i_newq, i_math, i_oini, i_iret, i_zret, i_aret, i_vret, z_fit, List.getElem?_cons_zero, List.getElem?_cons_succ, List.set_cons_zero, List.set_cons_succ, Nat.reduceAdd, Nat.reduceLT, Nat.reduceLeDiff, Nat.reduceEqDiff, Nat.zero_lt_succ, Value.category, true_and, or_true, true_or, and_true, false_implies, true_implies, not_false_eq_true, not_true_eq_false, List.map_cons, List.map_nil, List.sum_cons, List.sum_nil, va_up_eq, bx_uu, va_up_lit, List.length_cons, List.length_nil, List.drop_succ_cons, List.drop_zero, Option.toList_some, Option.toList_none, List.cons_append, List.nil_append]))
  (try refine zS_one rfl ?_)
  refine r_callV (c_sizeOf sc (d + 3) hw.2.1 (nI mi)) rfl rfl rfl rfl hw.2.1.o (Nat.le_refl _) (Nat.le_refl _) ?_
  rintro r h' ⟨rfl, ⟨a', ha', g2, rfl, hl3⟩ | ⟨rfl, g⟩⟩
  rotate_left
  · exact absurd rfl (g mi hmi)
  have ea := nI_inj (by omega) (by omega) g2
  subst ea
  (repeat (refine zS_one rfl ?_; simp (disch := (first | decide | assumption | omega)) only [i_push, i_null, i_ild, i_ald, i_ist, i_ast, i_inc, i_bin, i_div, i_un, i_dup, i_pop, i_dup2, i_if, i_icmp, i_nul, i_nnl, i_goto, i_getf, i_putf, i_gets, i_nald, i_nast, i_aald, i_aast, i_alen, i_new, i_newa, i_newq, i_math, i_oini, i_iret, i_zret, i_aret, i_vret, z_fit, List.getElem?_cons_zero, List.getElem?_cons_succ, List.set_cons_zero, List.set_cons_succ, Nat.reduceAdd, Nat.reduceLT, Nat.reduceLeDiff, Nat.reduceEqDiff, Nat.zero_lt_succ, Value.category, true_and, or_true, true_or, and_true, false_implies, true_implies, not_false_eq_true, not_true_eq_false, List.map_cons, List.map_nil, List.sum_cons, List.sum_nil, va_up_eq, bx_uu, va_up_lit, List.length_cons, List.length_nil, List.drop_succ_cons, List.drop_zero, Option.toList_some, Option.toList_none, List.cons_append, List.nil_append]))
  (try refine zS_one rfl ?_)
  refine r_callV (c_partsOfNext sc (d + 3) e h1 h2 hr) rfl rfl rfl rfl e (Nat.le_refl _) (Nat.le_refl _) ?_
  rintro r h2' ⟨rfl, rfl⟩
  have hpc : pcn (p * 3 + st) ≤ 5 := by
    unfold pcn
    have := isES_le (z_tok ((p * 3 + st) * 4 + 0))
    have := isES_le (z_tok ((p * 3 + st) * 4 + 1))
    have := isES_le (z_tok ((p * 3 + st) * 4 + 2))
    have := isES_le (z_tok ((p * 3 + st) * 4 + 3))
    omega
  by_cases hlen : (ps mi).length = pcn (p * 3 + st)
  rotate_left
  · have w1 : ¬ nI (ps mi).length = nI (pcn (p * 3 + st)) := fun z => hlen (nI_inj (by omega) (by omega) z)
    (repeat (refine zS_one rfl ?_; simp (disch := (first | decide | assumption | omega)) only [i_push, i_null, i_ild, i_ald, i_ist, i_ast, i_inc, i_bin, i_div, i_un, i_dup, i_pop, i_dup2, i_if, i_icmp, i_nul, i_nnl, i_goto, i_getf, i_putf, i_gets, i_nald, i_nast, i_aald, i_aast, i_alen, i_new, i_newa, i_newq, i_math, i_oini, i_iret, i_zret, i_aret, i_vret, z_fit, List.getElem?_cons_zero, List.getElem?_cons_succ, List.set_cons_zero, List.set_cons_succ, Nat.reduceAdd, Nat.reduceLT, Nat.reduceLeDiff, Nat.reduceEqDiff, Nat.zero_lt_succ, Value.category, true_and, or_true, true_or, and_true, false_implies, true_implies, not_false_eq_true, not_true_eq_false, List.map_cons, List.map_nil, List.sum_cons, List.sum_nil, va_up_eq, bx_uu, va_up_lit, List.length_cons, List.length_nil, List.drop_succ_cons, List.drop_zero, Option.toList_some, Option.toList_none, List.cons_append, List.nil_append, w1]))
    refine hP _ _ (Or.inr ⟨?_, rfl, I, Θ, n, den, exq.rf, hw, frA.rf⟩)
    unfold rfin
    rw [if_neg hlen]
  have hfl : ∀ (c : Nat), c ≤ crow (p * 3 + st) + 3 → rfin (p * 3 + st) (ps mi) I Θ = none → ∀ (h' : zH) (I' : Nat → Int32) (Θ' : Nat → zT) (n' : Nat) (den' : Nat → zT), wQ h2' a n den c k G m ps I' Θ' h' n' den' → P (some (.int 0)) h' := fun c hc hno h' I' Θ' n' den' hq => hP _ _ (Or.inr ⟨hno, rfl, I', Θ', n', den', hq.1.le hc, hq.2⟩)
  have hrf : rfin (p * 3 + st) (ps mi) I Θ = (rrow (p * 3 + st) (ps mi) (I, Θ, 0)).bind (rpay (ps mi)) := by unfold rfin; rw [if_pos hlen]
  have hcd : crow (p * 3 + st) = ct (z_tok ((p * 3 + st) * 4 + 0)) + ct (z_tok ((p * 3 + st) * 4 + 1)) + ct (z_tok ((p * 3 + st) * 4 + 2)) + ct (z_tok ((p * 3 + st) * 4 + 3)) := rfl
  have hpd : pcn (p * 3 + st) = 1 + isES (z_tok ((p * 3 + st) * 4 + 0)) + isES (z_tok ((p * 3 + st) * 4 + 1)) + isES (z_tok ((p * 3 + st) * 4 + 2)) + isES (z_tok ((p * 3 + st) * 4 + 3)) := rfl
  rw [hlen]
  (iterate 5 (refine zS_one rfl ?_; simp (disch := (first | decide | assumption | omega)) only [i_push, i_null, i_ild, i_ald, i_ist, i_ast, i_inc, i_bin, i_div, i_un, i_dup, i_pop, i_dup2, i_if, i_icmp, i_nul, i_nnl, i_goto, i_getf, i_putf, i_gets, i_nald, i_nast, i_aald, i_aast, i_alen, i_new, i_newa, i_newq, i_math, i_oini, i_iret, i_zret, i_aret, i_vret, z_fit, List.getElem?_cons_zero, List.getElem?_cons_succ, List.set_cons_zero, List.set_cons_succ, Nat.reduceAdd, Nat.reduceLT, Nat.reduceLeDiff, Nat.reduceEqDiff, Nat.zero_lt_succ, Value.category, true_and, or_true, true_or, and_true, false_implies, true_implies, not_false_eq_true, not_true_eq_false, List.map_cons, List.map_nil, List.sum_cons, List.sum_nil, va_up_eq, bx_uu, va_up_lit, List.length_cons, List.length_nil, List.drop_succ_cons, List.drop_zero, Option.toList_some, Option.toList_none, List.cons_append, List.nil_append, nI_1']))
  have i0 := isES_le (z_tok ((p * 3 + st) * 4 + 0))
  have i1 := isES_le (z_tok ((p * 3 + st) * 4 + 1))
  have i2 := isES_le (z_tok ((p * 3 + st) * 4 + 2))
  have i3 := isES_le (z_tok ((p * 3 + st) * 4 + 3))
  have hw0 : wQ h2' a n den 0 k G m ps I Θ h2' n den := ⟨exq.rf, hw, frA.rf⟩
  refine c_rtok sc d ha (s := (I, Θ, 0)) (c := 0) (i := 0) hw0 hmi h1 h2 hr (by decide) (by omega) (fun _ => by show 0 < _; omega) (Nat.zero_le 3) (tin 0 (by decide)) (fun hno => hfl _ (by omega) (by rw [hrf]; unfold rrow; rw [hno]; rfl)) (fun s1 h1' x1 n1 den1 e1 hw1 => ?_)
  have f1 := rtok_I e1
  refine c_rtok sc d ha (s := s1) (i := 1) hw1 hmi (f1.1.trans h1) (f1.2.1.trans h2) hr (by decide) (by omega) (fun z => by rw [f1.2.2.2.2]; show 0 + _ < _; omega) (by rw [f1.2.2.2.2]; show 0 + _ ≤ _; omega) (tin 1 (by decide)) (fun hno => hfl _ (by omega) (by rw [hrf]; unfold rrow; rw [e1, Option.bind_some, hno]; rfl)) (fun s2 h2'' x2 n2 den2 e2 hw2 => ?_)
  have f2 := rtok_I e2
  refine c_rtok sc d ha (s := s2) (i := 2) hw2 hmi (f2.1.trans (f1.1.trans h1)) (f2.2.1.trans (f1.2.1.trans h2)) hr (by decide) (by omega) (fun z => by rw [f2.2.2.2.2, f1.2.2.2.2]; show 0 + _ + _ < _; omega) (by rw [f2.2.2.2.2, f1.2.2.2.2]; show 0 + _ + _ ≤ _; omega) (tin 2 (by decide)) (fun hno => hfl _ (by omega) (by rw [hrf]; unfold rrow; rw [e1, Option.bind_some, e2, Option.bind_some, hno]; rfl)) (fun s3 h3' x3 n3 den3 e3 hw3 => ?_)
  have f3 := rtok_I e3
  refine c_rtok sc d ha (s := s3) (i := 3) hw3 hmi (f3.1.trans (f2.1.trans (f1.1.trans h1))) (f3.2.1.trans (f2.2.1.trans (f1.2.1.trans h2))) hr (by decide) (by omega) (fun z => by rw [f3.2.2.2.2, f2.2.2.2.2, f1.2.2.2.2]; show 0 + _ + _ + _ < _; omega) (by rw [f3.2.2.2.2, f2.2.2.2.2, f1.2.2.2.2]; show 0 + _ + _ + _ ≤ _; omega) (tin 3 (by decide)) (fun hno => hfl _ (by omega) (by rw [hrf]; unfold rrow; rw [e1, Option.bind_some, e2, Option.bind_some, e3, Option.bind_some, hno]; rfl)) (fun s4 h4' x4 n4 den4 e4 hw4 => ?_)
  have f4 := rtok_I e4
  have hat : s4.2.2 + 1 = (ps mi).length := by
    rw [f4.2.2.2.2, f3.2.2.2.2, f2.2.2.2.2, f1.2.2.2.2, hlen, hpd]
    show 0 + _ + _ + _ + _ + 1 = _
    omega
  have hrf4 : rfin (p * 3 + st) (ps mi) I Θ = rpay (ps mi) s4 := by
    rw [hrf]; unfold rrow; rw [e1, Option.bind_some, e2, Option.bind_some, e3, Option.bind_some, e4, Option.bind_some]
  have h74 : s4.1 7 = nI st := f4.2.1.trans (f3.2.1.trans (f2.2.1.trans (f1.2.1.trans h2)))
  have hw4' : wQ h2' a n den (crow (p * 3 + st)) k G m ps s4.1 s4.2.1 h4' n4 den4 := ⟨hw4.1.le (by omega), hw4.2⟩
  obtain ⟨hx4, hw5, hf4⟩ := hw4'
  have hn4 := hx4.2.1
  have hw5' := hw5
  obtain ⟨hT, hM, x5, y5, z5, e5, hx, hy, hz, hI⟩ := hw5
  have e50 := e5
  unfold aF at e5
  have w4 : 4 ≤ nI (3 + 1) := by decide
  (repeat (refine zS_one rfl ?_; simp (disch := (first | decide | assumption | omega)) only [i_push, i_null, i_ild, i_ald, i_ist, i_ast, i_inc, i_bin, i_div, i_un, i_dup, i_pop, i_dup2, i_if, i_icmp, i_nul, i_nnl, i_goto, i_getf, i_putf, i_gets, i_nald, i_nast, i_aald, i_aast, i_alen, i_new, i_newa, i_newq, i_math, i_oini, i_iret, i_zret, i_aret, i_vret, z_fit, List.getElem?_cons_zero, List.getElem?_cons_succ, List.set_cons_zero, List.set_cons_succ, Nat.reduceAdd, Nat.reduceLT, Nat.reduceLeDiff, Nat.reduceEqDiff, Nat.zero_lt_succ, Value.category, true_and, or_true, true_or, and_true, false_implies, true_implies, not_false_eq_true, not_true_eq_false, List.map_cons, List.map_nil, List.sum_cons, List.sum_nil, va_up_eq, bx_uu, va_up_lit, List.length_cons, List.length_nil, List.drop_succ_cons, List.drop_zero, Option.toList_some, Option.toList_none, List.cons_append, List.nil_append, w4]))
  (try refine zS_one rfl ?_)
  refine r_callV (c_partAt sc (d + 2) hM (nI mi) (nI s4.2.2)) rfl rfl rfl rfl hM.o (Nat.le_refl _) (Nat.le_refl _) ?_
  rintro r h6 ⟨rfl, ⟨a', b', t, g1, g2, g3, g4, g5, g6, rfl⟩ | ⟨rfl, g⟩⟩
  rotate_left
  · exact absurd rfl (g mi s4.2.2 hmi rfl (by omega))
  have ea := nI_inj (by omega) (by omega) g2
  subst ea
  have eb : s4.2.2 = b' := nI_inj (by omega) (by
    have := (List.getElem?_eq_some_iff.mp g4).1
    omega) g3
  subst eb
  (repeat (refine zS_one rfl ?_; simp (disch := (first | decide | assumption | omega)) only [i_push, i_null, i_ild, i_ald, i_ist, i_ast, i_inc, i_bin, i_div, i_un, i_dup, i_pop, i_dup2, i_if, i_icmp, i_nul, i_nnl, i_goto, i_getf, i_putf, i_gets, i_nald, i_nast, i_aald, i_aast, i_alen, i_new, i_newa, i_newq, i_math, i_oini, i_iret, i_zret, i_aret, i_vret, z_fit, List.getElem?_cons_zero, List.getElem?_cons_succ, List.set_cons_zero, List.set_cons_succ, Nat.reduceAdd, Nat.reduceLT, Nat.reduceLeDiff, Nat.reduceEqDiff, Nat.zero_lt_succ, Value.category, true_and, or_true, true_or, and_true, false_implies, true_implies, not_false_eq_true, not_true_eq_false, List.map_cons, List.map_nil, List.sum_cons, List.sum_nil, va_up_eq, bx_uu, va_up_lit, List.length_cons, List.length_nil, List.drop_succ_cons, List.drop_zero, Option.toList_some, Option.toList_none, List.cons_append, List.nil_append]))
  (try refine zS_one rfl ?_)
  refine r_callV (c_openedUp sc (d + 2) ha hw5' g6) rfl rfl rfl rfl e5 (Nat.le_refl _) (Nat.le_refl _) ?_
  have q10 : ¬ (1 : Int32) = 0 := by decide
  rintro r h7 (⟨u, Z, rfl, -, ho, u1, u2, hu3, hw7, hf7⟩ | ⟨rfl, rfl, hno⟩)
  · rw [opn_F] at ho
    have hw7' := hw7
    obtain ⟨hT7, hM7, x7, y7, z7, e7, hx7, hy7, hz7, hI7⟩ := hw7
    have e70 := e7
    unfold aF at e7
    (repeat (refine zS_one rfl ?_; simp (disch := (first | decide | assumption | omega)) only [i_push, i_null, i_ild, i_ald, i_ist, i_ast, i_inc, i_bin, i_div, i_un, i_dup, i_pop, i_dup2, i_if, i_icmp, i_nul, i_nnl, i_goto, i_getf, i_putf, i_gets, i_nald, i_nast, i_aald, i_aast, i_alen, i_new, i_newa, i_newq, i_math, i_oini, i_iret, i_zret, i_aret, i_vret, z_fit, List.getElem?_cons_zero, List.getElem?_cons_succ, List.set_cons_zero, List.set_cons_succ, Nat.reduceAdd, Nat.reduceLT, Nat.reduceLeDiff, Nat.reduceEqDiff, Nat.zero_lt_succ, Value.category, true_and, or_true, true_or, and_true, false_implies, true_implies, not_false_eq_true, not_true_eq_false, List.map_cons, List.map_nil, List.sum_cons, List.sum_nil, va_up_eq, bx_uu, va_up_lit, List.length_cons, List.length_nil, List.drop_succ_cons, List.drop_zero, Option.toList_some, Option.toList_none, List.cons_append, List.nil_append, e7]))
    (try refine zS_one rfl ?_)
    refine r_callV (c_isNum sc (d + 4) hT7 u2) rfl rfl rfl rfl hT7.o (Nat.le_refl _) (Nat.le_refl _) ?_
    rintro r h8 ⟨rfl, ⟨rfl, -, hk⟩ | ⟨rfl, hk⟩⟩
    · (repeat (refine zS_one rfl ?_; simp (disch := (first | decide | assumption | omega)) only [i_push, i_null, i_ild, i_ald, i_ist, i_ast, i_inc, i_bin, i_div, i_un, i_dup, i_pop, i_dup2, i_if, i_icmp, i_nul, i_nnl, i_goto, i_getf, i_putf, i_gets, i_nald, i_nast, i_aald, i_aast, i_alen, i_new, i_newa, i_newq, i_math, i_oini, i_iret, i_zret, i_aret, i_vret, z_fit, List.getElem?_cons_zero, List.getElem?_cons_succ, List.set_cons_zero, List.set_cons_succ, Nat.reduceAdd, Nat.reduceLT, Nat.reduceLeDiff, Nat.reduceEqDiff, Nat.zero_lt_succ, Value.category, true_and, or_true, true_or, and_true, false_implies, true_implies, not_false_eq_true, not_true_eq_false, List.map_cons, List.map_nil, List.sum_cons, List.sum_nil, va_up_eq, bx_uu, va_up_lit, List.length_cons, List.length_nil, List.drop_succ_cons, List.drop_zero, Option.toList_some, Option.toList_none, List.cons_append, List.nil_append, e7, q10]))
      (try refine zS_one rfl ?_)
      refine r_callV (c_hash sc (d + 2) hT7 (by omega) hx7.1 hx7.2.1 g5 g6) rfl rfl rfl rfl hT7.o (Nat.le_refl _) (Nat.le_refl _) ?_
      rintro r h9 ⟨v, n9, den9, rfl, v1, v2, v3, hT9, k1, k2, k3, hf9⟩
      have hx9 : exq n4 den4 n9 den9 1 := ⟨k1, k2, k3⟩
      have e9 : h9.1 a = _ := (hf9.1 a (by omega)).trans e7
      have hM9 := (hw7'.mk ha hT9 hx9 hf9 (by decide)).2.1
      (repeat (refine zS_one rfl ?_; simp (disch := (first | decide | assumption | omega)) only [i_push, i_null, i_ild, i_ald, i_ist, i_ast, i_inc, i_bin, i_div, i_un, i_dup, i_pop, i_dup2, i_if, i_icmp, i_nul, i_nnl, i_goto, i_getf, i_putf, i_gets, i_nald, i_nast, i_aald, i_aast, i_alen, i_new, i_newa, i_newq, i_math, i_oini, i_iret, i_zret, i_aret, i_vret, z_fit, List.getElem?_cons_zero, List.getElem?_cons_succ, List.set_cons_zero, List.set_cons_succ, Nat.reduceAdd, Nat.reduceLT, Nat.reduceLeDiff, Nat.reduceEqDiff, Nat.zero_lt_succ, Value.category, true_and, or_true, true_or, and_true, false_implies, true_implies, not_false_eq_true, not_true_eq_false, List.map_cons, List.map_nil, List.sum_cons, List.sum_nil, va_up_eq, bx_uu, va_up_lit, List.length_cons, List.length_nil, List.drop_succ_cons, List.drop_zero, Option.toList_some, Option.toList_none, List.cons_append, List.nil_append, e9]))
      have hi7 : (inc s4.1 s4.2.1) 7 = s4.1 7 := by unfold inc; split <;> rfl
      refine hP _ _ (Or.inl ⟨va_up (inc s4.1 s4.2.1) 7 (s4.1 7 + 1), hsh s4.2.1 (den4 t), Z, u, n9, den9, ?_, rfl, u1, by omega, by rw [k3 u u1 u2]; exact hu3, by rw [← hu3]; exact hk, (hx4.tr hx9).le (by omega), ?_, ?_⟩)
      · rw [hrf4]
        unfold rpay
        rw [g4]
        dsimp only
        rw [ho]
        dsimp only
        rw [if_pos (by rw [← hu3]; exact hk)]
      · rw [← hi7]
        refine wld_set (h := h9) (I := va_up (inc s4.1 s4.2.1) 7 (inc s4.1 s4.2.1 7 + 1)) (x := v) (y := y7) (z := z7) ha hT9 hM9 ⟨v1, v2, by rw [v3, hx7.2.2]; exact (va_up_eq s4.2.1 0 _).symm⟩ ⟨hy7.1, by have := hy7.2.1; omega, by rw [k3 y7 hy7.1 hy7.2.1, hy7.2.2]; rfl⟩ ?_ ⟨hI7.1, hI7.2.1, hI7.2.2.1, hI7.2.2.2.1, hI7.2.2.2.2.1, hI7.2.2.2.2.2.1, st + 1, by omega, by rw [va_up_eq, hi7, h74, nI_1]⟩
        rcases hz7 with hz | ⟨z1, z2, z3, z4⟩
        · exact Or.inl hz
        · exact Or.inr ⟨z1, by omega, by rw [k3 z7 z1 z2, z3]; rfl, z4⟩
      · exact ((hf4.tr hf7).tr (hf9.A (by decide) (by decide))).tr frA_set
    · (repeat (refine zS_one rfl ?_; simp (disch := (first | decide | assumption | omega)) only [i_push, i_null, i_ild, i_ald, i_ist, i_ast, i_inc, i_bin, i_div, i_un, i_dup, i_pop, i_dup2, i_if, i_icmp, i_nul, i_nnl, i_goto, i_getf, i_putf, i_gets, i_nald, i_nast, i_aald, i_aast, i_alen, i_new, i_newa, i_newq, i_math, i_oini, i_iret, i_zret, i_aret, i_vret, z_fit, List.getElem?_cons_zero, List.getElem?_cons_succ, List.set_cons_zero, List.set_cons_succ, Nat.reduceAdd, Nat.reduceLT, Nat.reduceLeDiff, Nat.reduceEqDiff, Nat.zero_lt_succ, Value.category, true_and, or_true, true_or, and_true, false_implies, true_implies, not_false_eq_true, not_true_eq_false, List.map_cons, List.map_nil, List.sum_cons, List.sum_nil, va_up_eq, bx_uu, va_up_lit, List.length_cons, List.length_nil, List.drop_succ_cons, List.drop_zero, Option.toList_some, Option.toList_none, List.cons_append, List.nil_append]))
      refine hfl _ (Nat.le_add_right _ _) ?_ _ _ _ n4 den4 ⟨hx4, hw7', hf4.tr hf7⟩
      rw [hrf4]
      unfold rpay
      rw [g4]
      dsimp only
      rw [ho]
      dsimp only
      rw [if_neg (by rw [← hu3]; exact hk.resolve_left (by omega))]
  · (repeat (refine zS_one rfl ?_; simp (disch := (first | decide | assumption | omega)) only [i_push, i_null, i_ild, i_ald, i_ist, i_ast, i_inc, i_bin, i_div, i_un, i_dup, i_pop, i_dup2, i_if, i_icmp, i_nul, i_nnl, i_goto, i_getf, i_putf, i_gets, i_nald, i_nast, i_aald, i_aast, i_alen, i_new, i_newa, i_newq, i_math, i_oini, i_iret, i_zret, i_aret, i_vret, z_fit, List.getElem?_cons_zero, List.getElem?_cons_succ, List.set_cons_zero, List.set_cons_succ, Nat.reduceAdd, Nat.reduceLT, Nat.reduceLeDiff, Nat.reduceEqDiff, Nat.zero_lt_succ, Value.category, true_and, or_true, true_or, and_true, false_implies, true_implies, not_false_eq_true, not_true_eq_false, List.map_cons, List.map_nil, List.sum_cons, List.sum_nil, va_up_eq, bx_uu, va_up_lit, List.length_cons, List.length_nil, List.drop_succ_cons, List.drop_zero, Option.toList_some, Option.toList_none, List.cons_append, List.nil_append, e5]))
    (try refine zS_one rfl ?_)
    refine r_callV (c_isNum sc (d + 4) hT (t := 0) (Nat.zero_le _)) rfl rfl rfl rfl hT.o (Nat.le_refl _) (Nat.le_refl _) ?_
    rintro r h8 ⟨rfl, ⟨rfl, hz0, -⟩ | ⟨rfl, -⟩⟩
    · omega
    · (repeat (refine zS_one rfl ?_; simp (disch := (first | decide | assumption | omega)) only [i_push, i_null, i_ild, i_ald, i_ist, i_ast, i_inc, i_bin, i_div, i_un, i_dup, i_pop, i_dup2, i_if, i_icmp, i_nul, i_nnl, i_goto, i_getf, i_putf, i_gets, i_nald, i_nast, i_aald, i_aast, i_alen, i_new, i_newa, i_newq, i_math, i_oini, i_iret, i_zret, i_aret, i_vret, z_fit, List.getElem?_cons_zero, List.getElem?_cons_succ, List.set_cons_zero, List.set_cons_succ, Nat.reduceAdd, Nat.reduceLT, Nat.reduceLeDiff, Nat.reduceEqDiff, Nat.zero_lt_succ, Value.category, true_and, or_true, true_or, and_true, false_implies, true_implies, not_false_eq_true, not_true_eq_false, List.map_cons, List.map_nil, List.sum_cons, List.sum_nil, va_up_eq, bx_uu, va_up_lit, List.length_cons, List.length_nil, List.drop_succ_cons, List.drop_zero, Option.toList_some, Option.toList_none, List.cons_append, List.nil_append]))
      refine hfl _ (Nat.le_add_right _ _) ?_ _ _ _ n4 den4 ⟨hx4, hw5', hf4⟩
      rw [hrf4]
      unfold rpay
      rw [g4]
      dsimp only
      split
      · next Z hZ => exact absurd (opn_F.mpr hZ) (hno.resolve_left (by omega) Z)
      · rfl
end AG8
