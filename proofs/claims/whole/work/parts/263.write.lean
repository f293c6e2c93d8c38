/-! Agreement.writeNext. -/
theorem c_pub' {h0 : zH} {n k : Nat} {den : Nat → zT} {G : Nat → Int32} (sc : Nat × (Nat → Int32)) (d : Nat) (hO : tOK h0 n k den G) (hn : n < 719) {x : Int32} (hx : key20 x) : zMt zTab sc (d + 3) 34 [.ref 1, .int x] h0 0 0 (mkQ h0 n k den G (nd 2 x.toInt 0 [] [] [])) := by
  obtain ⟨p, hp, rfl⟩ := hx
  exact c_pub sc d hO hn hp
abbrev zW : Type := (Nat → Int32) × (Nat → zT) × List zT × Nat
/-- one token written -/
noncomputable def wtok (tok : Int32) (s : zW) : zW :=
  if tok = 1 then (va_up s.1 3 (nI (s.2.2.2 + 1)), hsh s.2.1 (nd 2 (nI (s.2.2.2 + 1)).toInt 0 [] [] []), s.2.2.1 ++ [nd 2 (nI (s.2.2.2 + 1)).toInt 0 [] [] []], s.2.2.2 + 1)
  else if tok = 2 then (inc s.1 s.2.1, hsh s.2.1 (prt s.1 s.2.1 (nd 2 (s.1 2).toInt 0 [] [] [])), s.2.2.1 ++ [prt s.1 s.2.1 (nd 2 (s.1 2).toInt 0 [] [] [])], s.2.2.2)
  else if tok = 0 then s
  else (va_up s.1 6 0, mixΘ tok s.1 s.2.1, s.2.2.1, s.2.2.2)
def ct (tok : Int32) : Nat := if tok = 1 then 2 else if tok = 2 then 3 else if tok = 0 then 0 else 3
/-- a whole message written: the tokens of a row, then the payload -/
noncomputable def wrow (r : Nat) (s : zW) : zW := wtok (z_tok (r * 4 + 3)) (wtok (z_tok (r * 4 + 2)) (wtok (z_tok (r * 4 + 1)) (wtok (z_tok (r * 4 + 0)) s)))
noncomputable def wpay (v : Int32) (s : zW) : zW := (va_up (inc s.1 s.2.1) 7 (s.1 7 + 1), hsh s.2.1 (prt s.1 s.2.1 (nd 1 v.toInt 0 [] [] [])), s.2.2.1 ++ [prt s.1 s.2.1 (nd 1 v.toInt 0 [] [] [])], s.2.2.2)
def crow (r : Nat) : Nat := ct (z_tok (r * 4 + 0)) + ct (z_tok (r * 4 + 1)) + ct (z_tok (r * 4 + 2)) + ct (z_tok (r * 4 + 3))
theorem iOK_3 {I : Nat → Int32} {v : Int32} (h : iOK I) (hv : key20 v) : iOK (va_up I 3 v) := ⟨h.1, h.2.1, h.2.2.1, hv, h.2.2.2.2⟩
theorem inc_iOK {I : Nat → Int32} {Θ : Nat → zT} (h : iOK I) : iOK (inc I Θ) := by
  unfold inc
  split
  · exact h
  · exact h
/-- what holds while a message is written -/
def wAt (h0 : zH) (a n : Nat) (den : Nat → zT) (c : Nat) (G : Nat → Int32) (m : Nat) (ps : Nat → List zT) (s : zW) (h : zH) : Prop := ∃ n' den', wQ h0 a n den c s.2.2.2 G m (va_up ps m s.2.2.1) s.1 s.2.1 h n' den'
section AG4
variable {h0 : zH} {a n m : Nat} {den : Nat → zT} {G : Nat → Int32} {ps : Nat → List zT}
theorem wtok_I {tok : Int32} {s : zW} : (wtok tok s).1 0 = s.1 0 ∧ (wtok tok s).1 1 = s.1 1 ∧ (wtok tok s).1 2 = s.1 2 ∧ (wtok tok s).1 7 = s.1 7 := by
  unfold wtok
  split
  · exact ⟨rfl, rfl, rfl, rfl⟩
  · split
    · unfold inc; split <;> exact ⟨rfl, rfl, rfl, rfl⟩
    · split <;> exact ⟨rfl, rfl, rfl, rfl⟩
set_option maxHeartbeats 4000000 in
theorem c_wtok (sc : Nat × (Nat → Int32)) (d : Nat) (ha : 44 ≤ a) (hm6 : m < 60) {P : zP} {pay : Int32} {c p st i : Nat} {s : zW} {x : Option Value} {h : zH} (hw : wAt h0 a n den c G m ps s h) (h1 : s.1 0 = nI p) (h2 : s.1 7 = nI st) (hr : p * 3 + st ≤ 4) (hi : i < 4) (hk : z_tok ((p * 3 + st) * 4 + i) = 1 → s.2.2.2 < 20) (hl : z_tok ((p * 3 + st) * 4 + i) = 1 ∨ z_tok ((p * 3 + st) * 4 + i) = 2 → s.2.2.1.length < 3) (hc : n + c + 3 < 720)
    (htok : z_tok ((p * 3 + st) * 4 + i) = 0 ∨ z_tok ((p * 3 + st) * 4 + i) = 1 ∨ z_tok ((p * 3 + st) * 4 + i) = 2 ∨ isMix (z_tok ((p * 3 + st) * 4 + i)))
    (kk : ∀ (h' : zH) (x' : Option Value), wAt h0 a n den (c + ct (z_tok ((p * 3 + st) * 4 + i))) G m ps (wtok (z_tok ((p * 3 + st) * 4 + i)) s) h' → zS (zMt zTab sc (d + 5), (0, 0), sc) k_Ag_writeNext P (2, [some (.ref a), some (.ref 11), some (.int pay), some (.int (nI (i + 1))), x'], [], h', 0, 0)) :
    zS (zMt zTab sc (d + 5), (0, 0), sc) k_Ag_writeNext P (2, [some (.ref a), some (.ref 11), some (.int pay), some (.int (nI i)), x], [], h, 0, 0) := by
  obtain ⟨n1, den1, hx1, hw1, hf1⟩ := hw
  have hn1 := hx1.2.1
  have w1 : ¬ 4 ≤ nI i := by rw [show (4 : Int32) = nI 4 by decide]; exact nI_ge hi (by decide)
  have hw1' := hw1
  obtain ⟨hT, hM, x0, y0, z0, e, hx, hy, hz, hI⟩ := hw1
  have e0 := e
  unfold aF at e
  (repeat (refine zS_one rfl ?_; simp (disch := (first | decide | assumption | omega)) only [i_push, i_null, i_ild, i_ald, i_ist, i_ast, i_inc, i_bin, i_div, i_un, i_dup, i_pop, i_dup2, i_if, i_icmp, i_nul, i_nnl, i_goto, i_getf, i_putf, i_gets, i_nald, i_nast, i_aald, i_aast, i_alen, i_new, i_newa, i_newq, i_math, i_oini, i_iret, i_zret, i_aret, i_vret, z_fit, List.getElem?_cons_zero, List.getElem?_cons_succ, List.set_cons_zero, List.set_cons_succ, Nat.reduceAdd, Nat.reduceLT, Nat.reduceLeDiff, Nat.reduceEqDiff, Nat.zero_lt_succ, Value.category, true_and, or_true, true_or, and_true, false_implies, true_implies, not_false_eq_true, not_true_eq_false, List.map_cons, List.map_nil, List.sum_cons, List.sum_nil, va_up_eq, bx_uu, va_up_lit, List.length_cons, List.length_nil, List.drop_succ_cons, List.drop_zero, Option.toList_some, Option.toList_none, List.cons_append, List.nil_append, w1]))
  (try refine zS_one rfl ?_)
  refine r_callV (c_tokenAt sc (d + 4) e0 h1 h2 hr hi) rfl rfl rfl rfl e (Nat.le_refl _) (Nat.le_refl _) ?_
  rintro r h' ⟨rfl, rfl⟩
  generalize z_tok ((p * 3 + st) * 4 + i) = tok at hk hl htok kk ⊢
  have q20 : ¬ (2 : Int32) = 1 := by decide
  have q01 : ¬ (0 : Int32) = 1 := by decide
  have q02 : ¬ (0 : Int32) = 2 := by decide
  rcases htok with rfl | rfl | rfl | htok
  · (iterate 11 (refine zS_one rfl ?_; simp (disch := (first | decide | assumption | omega)) only [i_push, i_null, i_ild, i_ald, i_ist, i_ast, i_inc, i_bin, i_div, i_un, i_dup, i_pop, i_dup2, i_if, i_icmp, i_nul, i_nnl, i_goto, i_getf, i_putf, i_gets, i_nald, i_nast, i_aald, i_aast, i_alen, i_new, i_newa, i_newq, i_math, i_oini, i_iret, i_zret, i_aret, i_vret, z_fit, List.getElem?_cons_zero, List.getElem?_cons_succ, List.set_cons_zero, List.set_cons_succ, Nat.reduceAdd, Nat.reduceLT, Nat.reduceLeDiff, Nat.reduceEqDiff, Nat.zero_lt_succ, Value.category, true_and, or_true, true_or, and_true, false_implies, true_implies, not_false_eq_true, not_true_eq_false, List.map_cons, List.map_nil, List.sum_cons, List.sum_nil, va_up_eq, bx_uu, va_up_lit, List.length_cons, List.length_nil, List.drop_succ_cons, List.drop_zero, Option.toList_some, Option.toList_none, List.cons_append, List.nil_append, q01, q02, nI_1']))
    refine kk _ _ ⟨n1, den1, ?_, ?_, hf1⟩
    · exact hx1
    · exact hw1'
  · (repeat (refine zS_one rfl ?_; simp (disch := (first | decide | assumption | omega)) only [i_push, i_null, i_ild, i_ald, i_ist, i_ast, i_inc, i_bin, i_div, i_un, i_dup, i_pop, i_dup2, i_if, i_icmp, i_nul, i_nnl, i_goto, i_getf, i_putf, i_gets, i_nald, i_nast, i_aald, i_aast, i_alen, i_new, i_newa, i_newq, i_math, i_oini, i_iret, i_zret, i_aret, i_vret, z_fit, List.getElem?_cons_zero, List.getElem?_cons_succ, List.set_cons_zero, List.set_cons_succ, Nat.reduceAdd, Nat.reduceLT, Nat.reduceLeDiff, Nat.reduceEqDiff, Nat.zero_lt_succ, Value.category, true_and, or_true, true_or, and_true, false_implies, true_implies, not_false_eq_true, not_true_eq_false, List.map_cons, List.map_nil, List.sum_cons, List.sum_nil, va_up_eq, bx_uu, va_up_lit, List.length_cons, List.length_nil, List.drop_succ_cons, List.drop_zero, Option.toList_some, Option.toList_none, List.cons_append, List.nil_append, e]))
    (try refine zS_one rfl ?_)
    refine r_callV (c_makeKey sc (d + 4) hT (hk rfl)) rfl rfl rfl rfl hT.o (Nat.le_refl _) (Nat.le_refl _) ?_
    rintro r h2 ⟨rfl, hT2, hf2⟩
    have e2 : h2.1 a = _ := (hf2.1 a (by omega)).trans e
    have hM2 := hM.fr (hi := 10) (Nat.le_refl _) (fun _ _ _ => rfl) hf2 (by omega)
    have hk20 : key20 (nI (s.2.2.2 + 1)) := ⟨s.2.2.2 + 1, hk rfl, rfl⟩
    (repeat (refine zS_one rfl ?_; simp (disch := (first | decide | assumption | omega)) only [i_push, i_null, i_ild, i_ald, i_ist, i_ast, i_inc, i_bin, i_div, i_un, i_dup, i_pop, i_dup2, i_if, i_icmp, i_nul, i_nnl, i_goto, i_getf, i_putf, i_gets, i_nald, i_nast, i_aald, i_aast, i_alen, i_new, i_newa, i_newq, i_math, i_oini, i_iret, i_zret, i_aret, i_vret, z_fit, List.getElem?_cons_zero, List.getElem?_cons_succ, List.set_cons_zero, List.set_cons_succ, Nat.reduceAdd, Nat.reduceLT, Nat.reduceLeDiff, Nat.reduceEqDiff, Nat.zero_lt_succ, Value.category, true_and, or_true, true_or, and_true, false_implies, true_implies, not_false_eq_true, not_true_eq_false, List.map_cons, List.map_nil, List.sum_cons, List.sum_nil, va_up_eq, bx_uu, va_up_lit, List.length_cons, List.length_nil, List.drop_succ_cons, List.drop_zero, Option.toList_some, Option.toList_none, List.cons_append, List.nil_append, e2]))
    (try refine zS_one rfl ?_)
    have hw3 : wld (va_up h2.1 a (.inr (0, aF (va_up s.1 3 (nI (s.2.2.2 + 1))) x0 y0 z0)), h2.2) a n1 (s.2.2.2 + 1) den1 G m (va_up ps m s.2.2.1) (va_up s.1 3 (nI (s.2.2.2 + 1))) s.2.1 := wld_set ha hT2 hM2 hx hy hz (iOK_3 hI hk20)
    refine r_callV (c_pub' sc (d + 2) (h0 := (va_up h2.1 a (.inr (0, aF (va_up s.1 3 (nI (s.2.2.2 + 1))) x0 y0 z0)), h2.2)) hw3.1 (by omega) hk20) rfl rfl rfl rfl hw3.1.o (Nat.le_refl _) (Nat.le_refl _) ?_
    rintro r h4 ⟨u, n4, den4, rfl, u1, u2, u3, hT4, g1, g2, g3, hf4⟩
    have hx4 : exq n1 den1 n4 den4 1 := ⟨g1, g2, g3⟩
    have hw4 := hw3.mk ha hT4 hx4 hf4 (by decide)
    have e4 : h4.1 a = _ := (hf4.1 a (by omega)).trans (va_up_eq _ _ _)
    (repeat (refine zS_one rfl ?_; simp (disch := (first | decide | assumption | omega)) only [i_push, i_null, i_ild, i_ald, i_ist, i_ast, i_inc, i_bin, i_div, i_un, i_dup, i_pop, i_dup2, i_if, i_icmp, i_nul, i_nnl, i_goto, i_getf, i_putf, i_gets, i_nald, i_nast, i_aald, i_aast, i_alen, i_new, i_newa, i_newq, i_math, i_oini, i_iret, i_zret, i_aret, i_vret, z_fit, List.getElem?_cons_zero, List.getElem?_cons_succ, List.set_cons_zero, List.set_cons_succ, Nat.reduceAdd, Nat.reduceLT, Nat.reduceLeDiff, Nat.reduceEqDiff, Nat.zero_lt_succ, Value.category, true_and, or_true, true_or, and_true, false_implies, true_implies, not_false_eq_true, not_true_eq_false, List.map_cons, List.map_nil, List.sum_cons, List.sum_nil, va_up_eq, bx_uu, va_up_lit, List.length_cons, List.length_nil, List.drop_succ_cons, List.drop_zero, Option.toList_some, Option.toList_none, List.cons_append, List.nil_append]))
    (try refine zS_one rfl ?_)
    refine r_callV (c_Aadd sc (d + 1) ha hw4 (by omega) hm6 (by rw [va_up_eq]; exact hl (Or.inl rfl)) u1 u2) rfl rfl rfl rfl e4 (Nat.le_refl _) (Nat.le_refl _) ?_
    rintro r h5 ⟨rfl, n5, den5, hx5, hw5, hf5⟩
    (iterate 3 (refine zS_one rfl ?_; simp (disch := (first | decide | assumption | omega)) only [i_push, i_null, i_ild, i_ald, i_ist, i_ast, i_inc, i_bin, i_div, i_un, i_dup, i_pop, i_dup2, i_if, i_icmp, i_nul, i_nnl, i_goto, i_getf, i_putf, i_gets, i_nald, i_nast, i_aald, i_aast, i_alen, i_new, i_newa, i_newq, i_math, i_oini, i_iret, i_zret, i_aret, i_vret, z_fit, List.getElem?_cons_zero, List.getElem?_cons_succ, List.set_cons_zero, List.set_cons_succ, Nat.reduceAdd, Nat.reduceLT, Nat.reduceLeDiff, Nat.reduceEqDiff, Nat.zero_lt_succ, Value.category, true_and, or_true, true_or, and_true, false_implies, true_implies, not_false_eq_true, not_true_eq_false, List.map_cons, List.map_nil, List.sum_cons, List.sum_nil, va_up_eq, bx_uu, va_up_lit, List.length_cons, List.length_nil, List.drop_succ_cons, List.drop_zero, Option.toList_some, Option.toList_none, List.cons_append, List.nil_append, nI_1']))
    rw [u3, va_up_eq, bx_uu] at hw5
    refine kk _ _ ⟨n5, den5, ((hx1.tr hx4).tr hx5), hw5, ?_⟩
    exact ((hf1.tr (hf2.A (by decide) (by decide))).tr frA_set).tr ((hf4.A (by decide) (by decide)).tr hf5)
  · (repeat (refine zS_one rfl ?_; simp (disch := (first | decide | assumption | omega)) only [i_push, i_null, i_ild, i_ald, i_ist, i_ast, i_inc, i_bin, i_div, i_un, i_dup, i_pop, i_dup2, i_if, i_icmp, i_nul, i_nnl, i_goto, i_getf, i_putf, i_gets, i_nald, i_nast, i_aald, i_aast, i_alen, i_new, i_newa, i_newq, i_math, i_oini, i_iret, i_zret, i_aret, i_vret, z_fit, List.getElem?_cons_zero, List.getElem?_cons_succ, List.set_cons_zero, List.set_cons_succ, Nat.reduceAdd, Nat.reduceLT, Nat.reduceLeDiff, Nat.reduceEqDiff, Nat.zero_lt_succ, Value.category, true_and, or_true, true_or, and_true, false_implies, true_implies, not_false_eq_true, not_true_eq_false, List.map_cons, List.map_nil, List.sum_cons, List.sum_nil, va_up_eq, bx_uu, va_up_lit, List.length_cons, List.length_nil, List.drop_succ_cons, List.drop_zero, Option.toList_some, Option.toList_none, List.cons_append, List.nil_append, e, q20]))
    (try refine zS_one rfl ?_)
    refine r_callV (c_pub' sc (d + 2) hT (by omega) hI.2.2.1) rfl rfl rfl rfl hT.o (Nat.le_refl _) (Nat.le_refl _) ?_
    rintro r h2 ⟨u, n2, den2, rfl, u1, u2, u3, hT2, g1, g2, g3, hf2⟩
    have hx2 : exq n1 den1 n2 den2 1 := ⟨g1, g2, g3⟩
    have hw2 := hw1'.mk ha hT2 hx2 hf2 (by decide)
    have e2 : h2.1 a = _ := (hf2.1 a (by omega)).trans e
    (repeat (refine zS_one rfl ?_; simp (disch := (first | decide | assumption | omega)) only [i_push, i_null, i_ild, i_ald, i_ist, i_ast, i_inc, i_bin, i_div, i_un, i_dup, i_pop, i_dup2, i_if, i_icmp, i_nul, i_nnl, i_goto, i_getf, i_putf, i_gets, i_nald, i_nast, i_aald, i_aast, i_alen, i_new, i_newa, i_newq, i_math, i_oini, i_iret, i_zret, i_aret, i_vret, z_fit, List.getElem?_cons_zero, List.getElem?_cons_succ, List.set_cons_zero, List.set_cons_succ, Nat.reduceAdd, Nat.reduceLT, Nat.reduceLeDiff, Nat.reduceEqDiff, Nat.zero_lt_succ, Value.category, true_and, or_true, true_or, and_true, false_implies, true_implies, not_false_eq_true, not_true_eq_false, List.map_cons, List.map_nil, List.sum_cons, List.sum_nil, va_up_eq, bx_uu, va_up_lit, List.length_cons, List.length_nil, List.drop_succ_cons, List.drop_zero, Option.toList_some, Option.toList_none, List.cons_append, List.nil_append]))
    (try refine zS_one rfl ?_)
    refine r_callV (c_closedUp sc (d + 1) ha hw2 (by omega) u1 u2) rfl rfl rfl rfl e2 (Nat.le_refl _) (Nat.le_refl _) ?_
    rintro r h3 ⟨v, n3, den3, rfl, v1, v2, v3, hx3, hw3, hf3⟩
    have hn3 := hx3.2.1
    obtain ⟨x3, y3, z3, e3, -⟩ := hw3.2.2
    (repeat (refine zS_one rfl ?_; simp (disch := (first | decide | assumption | omega)) only [i_push, i_null, i_ild, i_ald, i_ist, i_ast, i_inc, i_bin, i_div, i_un, i_dup, i_pop, i_dup2, i_if, i_icmp, i_nul, i_nnl, i_goto, i_getf, i_putf, i_gets, i_nald, i_nast, i_aald, i_aast, i_alen, i_new, i_newa, i_newq, i_math, i_oini, i_iret, i_zret, i_aret, i_vret, z_fit, List.getElem?_cons_zero, List.getElem?_cons_succ, List.set_cons_zero, List.set_cons_succ, Nat.reduceAdd, Nat.reduceLT, Nat.reduceLeDiff, Nat.reduceEqDiff, Nat.zero_lt_succ, Value.category, true_and, or_true, true_or, and_true, false_implies, true_implies, not_false_eq_true, not_true_eq_false, List.map_cons, List.map_nil, List.sum_cons, List.sum_nil, va_up_eq, bx_uu, va_up_lit, List.length_cons, List.length_nil, List.drop_succ_cons, List.drop_zero, Option.toList_some, Option.toList_none, List.cons_append, List.nil_append]))
    (try refine zS_one rfl ?_)
    refine r_callV (c_Aadd sc (d + 1) ha hw3 (by omega) hm6 (by rw [va_up_eq]; exact hl (Or.inr rfl)) v1 v2) rfl rfl rfl rfl e3 (Nat.le_refl _) (Nat.le_refl _) ?_
    rintro r h5 ⟨rfl, n5, den5, hx5, hw5, hf5⟩
    (iterate 3 (refine zS_one rfl ?_; simp (disch := (first | decide | assumption | omega)) only [i_push, i_null, i_ild, i_ald, i_ist, i_ast, i_inc, i_bin, i_div, i_un, i_dup, i_pop, i_dup2, i_if, i_icmp, i_nul, i_nnl, i_goto, i_getf, i_putf, i_gets, i_nald, i_nast, i_aald, i_aast, i_alen, i_new, i_newa, i_newq, i_math, i_oini, i_iret, i_zret, i_aret, i_vret, z_fit, List.getElem?_cons_zero, List.getElem?_cons_succ, List.set_cons_zero, List.set_cons_succ, Nat.reduceAdd, Nat.reduceLT, Nat.reduceLeDiff, Nat.reduceEqDiff, Nat.zero_lt_succ, Value.category, true_and, or_true, true_or, and_true, false_implies, true_implies, not_false_eq_true, not_true_eq_false, List.map_cons, List.map_nil, List.sum_cons, List.sum_nil, va_up_eq, bx_uu, va_up_lit, List.length_cons, List.length_nil, List.drop_succ_cons, List.drop_zero, Option.toList_some, Option.toList_none, List.cons_append, List.nil_append, nI_1']))
    rw [v3, u3, va_up_eq, bx_uu] at hw5
    refine kk _ _ ⟨n5, den5, (((hx1.tr hx2).tr hx3).tr hx5), ?_, ?_⟩
    · exact hw5
    · exact (hf1.tr (hf2.A (by decide) (by decide))).tr (hf3.tr hf5)
  · have t1 : ¬ tok = 1 := by rcases htok with rfl | rfl | rfl | rfl <;> decide
    have t2 : ¬ tok = 2 := by rcases htok with rfl | rfl | rfl | rfl <;> decide
    have t0 : ¬ tok = 0 := by rcases htok with rfl | rfl | rfl | rfl <;> decide
    (repeat (refine zS_one rfl ?_; simp (disch := (first | decide | assumption | omega)) only [i_push, i_null, i_ild, i_ald, i_ist, i_ast, i_inc, i_bin, i_div, i_un, i_dup, i_pop, i_dup2, i_if, i_icmp, i_nul, i_nnl, i_goto, i_getf, i_putf, i_gets, i_nald, i_nast, i_aald, i_aast, i_alen, i_new, i_newa, i_newq, i_math, i_oini, i_iret, i_zret, i_aret, i_vret, z_fit, List.getElem?_cons_zero, List.getElem?_cons_succ, List.set_cons_zero, List.set_cons_succ, Nat.reduceAdd, Nat.reduceLT, Nat.reduceLeDiff, Nat.reduceEqDiff, Nat.zero_lt_succ, Value.category, true_and, or_true, true_or, and_true, false_implies, true_implies, not_false_eq_true, not_true_eq_false, List.map_cons, List.map_nil, List.sum_cons, List.sum_nil, va_up_eq, bx_uu, va_up_lit, List.length_cons, List.length_nil, List.drop_succ_cons, List.drop_zero, Option.toList_some, Option.toList_none, List.cons_append, List.nil_append, e, t1, t2, t0]))
    (try refine zS_one rfl ?_)
    refine r_callV (c_mixKeys sc (d + 1) ha hw1' (by omega) htok) rfl rfl rfl rfl e (Nat.le_refl _) (Nat.le_refl _) ?_
    rintro r h2 ⟨rfl, n2, den2, hx2, hw2, hf2⟩
    (iterate 2 (refine zS_one rfl ?_; simp (disch := (first | decide | assumption | omega)) only [i_push, i_null, i_ild, i_ald, i_ist, i_ast, i_inc, i_bin, i_div, i_un, i_dup, i_pop, i_dup2, i_if, i_icmp, i_nul, i_nnl, i_goto, i_getf, i_putf, i_gets, i_nald, i_nast, i_aald, i_aast, i_alen, i_new, i_newa, i_newq, i_math, i_oini, i_iret, i_zret, i_aret, i_vret, z_fit, List.getElem?_cons_zero, List.getElem?_cons_succ, List.set_cons_zero, List.set_cons_succ, Nat.reduceAdd, Nat.reduceLT, Nat.reduceLeDiff, Nat.reduceEqDiff, Nat.zero_lt_succ, Value.category, true_and, or_true, true_or, and_true, false_implies, true_implies, not_false_eq_true, not_true_eq_false, List.map_cons, List.map_nil, List.sum_cons, List.sum_nil, va_up_eq, bx_uu, va_up_lit, List.length_cons, List.length_nil, List.drop_succ_cons, List.drop_zero, Option.toList_some, Option.toList_none, List.cons_append, List.nil_append, nI_1']))
    have hct : ct tok = 3 := by unfold ct; rw [if_neg t1, if_neg t2, if_neg t0]
    refine kk _ _ ⟨n2, den2, ?_, ?_, hf1.tr hf2⟩
    · rw [hct]; exact hx1.tr hx2
    · unfold wtok; rw [if_neg t1, if_neg t2, if_neg t0]; exact hw2
end AG4
