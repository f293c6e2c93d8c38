theorem nwC_f {h h' : zH} (hn : nwC h) (hf : ∀ q, q < 15 → h'.1 q = h.1 q) : nwC h' := by
  obtain ⟨h0, h14, ⟨q1, q2, q3, q4, q5, q6, q7, q8, q9, q10⟩, ⟨p1, p2, p3⟩⟩ := hn
  exact ⟨(hf 0 (by omega)).trans h0, (hf 14 (by omega)).trans h14, ⟨(hf 1 (by omega)).trans q1, (hf 2 (by omega)).trans q2, (hf 3 (by omega)).trans q3, (hf 4 (by omega)).trans q4, (hf 5 (by omega)).trans q5, (hf 6 (by omega)).trans q6, (hf 7 (by omega)).trans q7, (hf 8 (by omega)).trans q8, (hf 9 (by omega)).trans q9, (hf 10 (by omega)).trans q10⟩, ⟨(hf 11 (by omega)).trans p1, (hf 12 (by omega)).trans p2, (hf 13 (by omega)).trans p3⟩⟩
theorem nw_RLe {h : zH} (hn : nwC h) (hS : MS h (fun _ => 0) (fun _ _ => 0)) (hs : h.2 = 44) : RLe h := by
  refine ⟨0, 0, 0, fun _ => [], 0, fun _ => [], fun _ => 0, 0, fun _ => [], fun _ => (fun _ => 0, fun _ => [], fun _ => 0), _, _, fun _ => (0, 0, 0), nw_cOK hn hs _ _, nw_MO hS _ _, fun _ _ => rfl, fun a τ hτ => (by cases hτ), fun s hs => (by omega), rfl, Or.inl (Nat.zero_le _), Nat.zero_le _⟩
set_option maxHeartbeats 8000000 in
theorem z_loop {L : Nat} {xs : Nat → Int32} (hL : L ≤ 3072) : ∀ (c j : Nat) (h : zH) (uc us : Nat), L < 6 * j + 6 * c + 6 → 6 * j ≤ L → RLe h → uc ≤ 44 + 5 * j → us ≤ 13201 + 98 * j → lwZ L xs 18 (6 * j) h uc us := by
  intro c
  have w7 : ¬ (0 : Nat) = 1 := by decide
  have eL : Int32.ofNat L = nI L := rfl
  have e6 : (nI L - 6).toInt = (L : Int) - 6 := pk_sub_toInt (a := L) (b := 6) (by omega) (by decide)
  have out : ∀ (j : Nat) (h : zH) (uc us : Nat), L < 6 * j + 6 → 6 * j ≤ L → lwZ L xs 18 (6 * j) h uc us := by
    intro j h uc us h1 h2
    have lt : nI L - 6 < nI (6 * j) := by
      rw [Int32.lt_iff_toInt_lt, e6, nI_toInt (by omega)]
      omega
    unfold lwZ
    (repeat (refine zS_one rfl ?_; simp (disch := (first | decide | assumption | omega)) only [i_push, i_null, i_ild, i_ald, i_ist, i_ast, i_inc, i_bin, i_div, i_un, i_dup, i_pop, i_dup2, i_if, i_icmp, i_nul, i_nnl, i_goto, i_getf, i_putf, i_gets, i_nald, i_nast, i_aald, i_aast, i_alen, i_new, i_newa, i_newq, i_math, i_oini, i_iret, i_zret, i_aret, i_vret, z_fit, List.getElem?_cons_zero, List.getElem?_cons_succ, List.set_cons_zero, List.set_cons_succ, Nat.reduceAdd, Nat.reduceLT, Nat.reduceLeDiff, Nat.reduceEqDiff, Nat.zero_lt_succ, Value.category, true_and, or_true, true_or, and_true, false_implies, true_implies, not_false_eq_true, not_true_eq_false, List.map_cons, List.map_nil, List.sum_cons, List.sum_nil, va_up_eq, bx_uu, va_up_lit, List.length_cons, List.length_nil, List.drop_succ_cons, List.drop_zero, Option.toList_some, Option.toList_none, List.cons_append, List.nil_append, w7, false_and, or_false, eL, lt]))
    all_goals (first | exact ⟨Or.inr rfl, rfl⟩ | rfl)
  induction c with
  | zero => intro j h uc us h1 h2 hR h4 h5; exact out j h uc us (by omega) h2
  | succ c ih =>
    intro j h uc us h1 h2 hR h4 h5
    by_cases hlt : 6 * j + 6 ≤ L
    · have ge : ¬ nI L - 6 < nI (6 * j) := by
        rw [Int32.lt_iff_toInt_lt, e6, nI_toInt (by omega)]
        omega
      have v0 : vp_in (nI (6 * j)) L := vp_in_nI (by omega) (by omega)
      have c0 : (nI (6 * j)).toNatClampNeg = 6 * j := nI_clamp (by omega)
      have cont : ∀ (h' : zH) (uc' us' : Nat), RLe h' → uc' ≤ 44 + 5 * (j + 1) → us' ≤ 13201 + 98 * (j + 1) → lwZ L xs 747 (6 * j) h' uc' us' := by
        intro h' uc' us' hR' g1 g2
        have := ih (j + 1) h' uc' us' (by omega) (by omega) hR' g1 g2
        unfold lwZ at this ⊢
        have n6 : nI (6 * j) + 6 = nI (6 * (j + 1)) := nI_add (6 * j) 6
        (iterate 2 (refine zS_one rfl ?_; simp (disch := (first | decide | assumption | omega)) only [i_push, i_null, i_ild, i_ald, i_ist, i_ast, i_inc, i_bin, i_div, i_un, i_dup, i_pop, i_dup2, i_if, i_icmp, i_nul, i_nnl, i_goto, i_getf, i_putf, i_gets, i_nald, i_nast, i_aald, i_aast, i_alen, i_new, i_newa, i_newq, i_math, i_oini, i_iret, i_zret, i_aret, i_vret, z_fit, List.getElem?_cons_zero, List.getElem?_cons_succ, List.set_cons_zero, List.set_cons_succ, Nat.reduceAdd, Nat.reduceLT, Nat.reduceLeDiff, Nat.reduceEqDiff, Nat.zero_lt_succ, Value.category, true_and, or_true, true_or, and_true, false_implies, true_implies, not_false_eq_true, not_true_eq_false, List.map_cons, List.map_nil, List.sum_cons, List.sum_nil, va_up_eq, bx_uu, va_up_lit, List.length_cons, List.length_nil, List.drop_succ_cons, List.drop_zero, Option.toList_some, Option.toList_none, List.cons_append, List.nil_append, n6]))
        exact this
      obtain ⟨o, ho, eo⟩ := pk_andE (xs (6 * j)) (m := 31) 5 (by decide)
      unfold lwZ
      (iterate 11 (refine zS_one rfl ?_; simp (disch := (first | decide | assumption | omega)) only [i_push, i_null, i_ild, i_ald, i_ist, i_ast, i_inc, i_bin, i_div, i_un, i_dup, i_pop, i_dup2, i_if, i_icmp, i_nul, i_nnl, i_goto, i_getf, i_putf, i_gets, i_nald, i_nast, i_aald, i_aast, i_alen, i_new, i_newa, i_newq, i_math, i_oini, i_iret, i_zret, i_aret, i_vret, z_fit, List.getElem?_cons_zero, List.getElem?_cons_succ, List.set_cons_zero, List.set_cons_succ, Nat.reduceAdd, Nat.reduceLT, Nat.reduceLeDiff, Nat.reduceEqDiff, Nat.zero_lt_succ, Value.category, true_and, or_true, true_or, and_true, false_implies, true_implies, not_false_eq_true, not_true_eq_false, List.map_cons, List.map_nil, List.sum_cons, List.sum_nil, va_up_eq, bx_uu, va_up_lit, List.length_cons, List.length_nil, List.drop_succ_cons, List.drop_zero, Option.toList_some, Option.toList_none, List.cons_append, List.nil_append, w7, false_and, or_false, eL, ge, v0, c0]))
      (try refine zS_one rfl ?_)
      by_cases h19 : o < 19
      · rcases (show o = 0 ∨ o = 1 ∨ o = 2 ∨ o = 3 ∨ o = 4 ∨ o = 5 ∨ o = 6 ∨ o = 7 ∨ o = 8 ∨ o = 9 ∨ o = 10 ∨ o = 11 ∨ o = 12 ∨ o = 13 ∨ o = 14 ∨ o = 15 ∨ o = 16 ∨ o = 17 ∨ o = 18 by omega) with rfl | rfl | rfl | rfl | rfl | rfl | rfl | rfl | rfl | rfl | rfl | rfl | rfl | rfl | rfl | rfl | rfl | rfl | rfl
        · exact r_tswIn (E := (zMt zTab (L, xs) 8, (600000, 7302250), (L, xs))) (Q := (fun r _ => r = some (.int 1))) 0 (by rw [eo]; decide) rfl (l_start (by omega) hL hR (by omega) (by omega) (fun h' hR' => cont h' _ _ hR' (by omega) (by omega)))
        · exact r_tswIn (E := (zMt zTab (L, xs) 8, (600000, 7302250), (L, xs))) (Q := (fun r _ => r = some (.int 1))) 1 (by rw [eo]; decide) rfl (l_write (by omega) hL hR (by omega) (by omega) (fun h' hR' => cont h' _ _ hR' (by omega) (by omega)))
        · exact r_tswIn (E := (zMt zTab (L, xs) 8, (600000, 7302250), (L, xs))) (Q := (fun r _ => r = some (.int 1))) 2 (by rw [eo]; decide) rfl (l_send (by omega) hL hR (by omega) (by omega) (fun h' hR' => cont h' _ _ hR' (by omega) (by omega)))
        · exact r_tswIn (E := (zMt zTab (L, xs) 8, (600000, 7302250), (L, xs))) (Q := (fun r _ => r = some (.int 1))) 3 (by rw [eo]; decide) rfl (l_deliver (by omega) hL hR (by omega) (by omega) (fun h' hR' => cont h' _ _ hR' (by omega) (by omega)))
        · exact r_tswIn (E := (zMt zTab (L, xs) 8, (600000, 7302250), (L, xs))) (Q := (fun r _ => r = some (.int 1))) 4 (by rw [eo]; decide) rfl (l_splice (by omega) hL hR (by omega) (by omega) (fun h' hR' => cont h' _ _ hR' (by omega) (by omega)))
        · exact r_tswIn (E := (zMt zTab (L, xs) 8, (600000, 7302250), (L, xs))) (Q := (fun r _ => r = some (.int 1))) 5 (by rw [eo]; decide) rfl (l_replace (by omega) hL hR (by omega) (by omega) (fun h' hR' => cont h' _ _ hR' (by omega) (by omega)))
        · exact r_tswIn (E := (zMt zTab (L, xs) 8, (600000, 7302250), (L, xs))) (Q := (fun r _ => r = some (.int 1))) 6 (by rw [eo]; decide) rfl (l_give (by omega) hL hR (by omega) (by omega) (fun h' hR' => cont h' _ _ hR' (by omega) (by omega)))
        · exact r_tswIn (E := (zMt zTab (L, xs) 8, (600000, 7302250), (L, xs))) (Q := (fun r _ => r = some (.int 1))) 7 (by rw [eo]; decide) rfl (l_tick (by omega) hL hR (by omega) (by omega) (fun h' hR' => cont h' _ _ hR' (by omega) (by omega)))
        · exact r_tswIn (E := (zMt zTab (L, xs) 8, (600000, 7302250), (L, xs))) (Q := (fun r _ => r = some (.int 1))) 8 (by rw [eo]; decide) rfl (l_state (by omega) hL hR (by omega) (by omega) (fun h' hR' => cont h' _ _ hR' (by omega) (by omega)))
        · exact r_tswIn (E := (zMt zTab (L, xs) 8, (600000, 7302250), (L, xs))) (Q := (fun r _ => r = some (.int 1))) 9 (by rw [eo]; decide) rfl (l_steps (by omega) hL hR (by omega) (by omega) (fun h' hR' => cont h' _ _ hR' (by omega) (by omega)))
        · exact r_tswIn (E := (zMt zTab (L, xs) 8, (600000, 7302250), (L, xs))) (Q := (fun r _ => r = some (.int 1))) 10 (by rw [eo]; decide) rfl (l_peer (by omega) hL hR (by omega) (by omega) (fun h' hR' => cont h' _ _ hR' (by omega) (by omega)))
        · exact r_tswIn (E := (zMt zTab (L, xs) 8, (600000, 7302250), (L, xs))) (Q := (fun r _ => r = some (.int 1))) 11 (by rw [eo]; decide) rfl (l_payload (by omega) hL hR (by omega) (by omega) (fun h' hR' => cont h' _ _ hR' (by omega) (by omega)))
        · exact r_tswIn (E := (zMt zTab (L, xs) 8, (600000, 7302250), (L, xs))) (Q := (fun r _ => r = some (.int 1))) 12 (by rw [eo]; decide) rfl (l_accepted (by omega) hL hR (by omega) (by omega) (fun h' hR' => cont h' _ _ hR' (by omega) (by omega)))
        · exact r_tswIn (E := (zMt zTab (L, xs) 8, (600000, 7302250), (L, xs))) (Q := (fun r _ => r = some (.int 1))) 13 (by rw [eo]; decide) rfl (l_match (by omega) hL hR (by omega) (by omega) (fun h' hR' => cont h' _ _ hR' (by omega) (by omega)))
        · exact r_tswIn (E := (zMt zTab (L, xs) 8, (600000, 7302250), (L, xs))) (Q := (fun r _ => r = some (.int 1))) 14 (by rw [eo]; decide) rfl (l_open (by omega) hL hR (by omega) (by omega) (fun h' hR' => cont h' _ _ hR' (by omega) (by omega)))
        · exact r_tswIn (E := (zMt zTab (L, xs) 8, (600000, 7302250), (L, xs))) (Q := (fun r _ => r = some (.int 1))) 15 (by rw [eo]; decide) rfl (l_parts (by omega) hL hR (by omega) (by omega) (fun h' hR' => cont h' _ _ hR' (by omega) (by omega)))
        · exact r_tswIn (E := (zMt zTab (L, xs) 8, (600000, 7302250), (L, xs))) (Q := (fun r _ => r = some (.int 1))) 16 (by rw [eo]; decide) rfl (l_sees (by omega) hL hR (by omega) (by omega) (fun h' hR' => cont h' _ _ hR' (by omega) (by omega)))
        · exact r_tswIn (E := (zMt zTab (L, xs) 8, (600000, 7302250), (L, xs))) (Q := (fun r _ => r = some (.int 1))) 17 (by rw [eo]; decide) rfl (l_shown (by omega) hL hR (by omega) (by omega) (fun h' hR' => cont h' _ _ hR' (by omega) (by omega)))
        · exact r_tswIn (E := (zMt zTab (L, xs) 8, (600000, 7302250), (L, xs))) (Q := (fun r _ => r = some (.int 1))) 18 (by rw [eo]; decide) rfl (l_same (by omega) hL hR (by omega) (by omega) (fun h' hR' => cont h' _ _ hR' (by omega) (by omega)))
      · refine r_tswOut (E := (zMt zTab (L, xs) 8, (600000, 7302250), (L, xs))) (Q := (fun r _ => r = some (.int 1))) (Or.inr ?_) (cont h uc us hR (by omega) (by omega))
        rw [eo, nI_toInt (by omega)]
        show (0 : Int) + 19 ≤ o
        omega
    · exact out j h uc us (by omega) h2
set_option maxHeartbeats 8000000 in
theorem z_all (L : Nat) (xs : Nat → Int32) (hL : L ≤ 3072) : z_goal L xs := by
  unfold z_goal
  (repeat (refine zS_one rfl ?_; simp (disch := (first | decide | assumption | omega)) only [i_push, i_null, i_ild, i_ald, i_ist, i_ast, i_inc, i_bin, i_div, i_un, i_dup, i_pop, i_dup2, i_if, i_icmp, i_nul, i_nnl, i_goto, i_getf, i_putf, i_gets, i_nald, i_nast, i_aald, i_aast, i_alen, i_new, i_newa, i_newq, i_math, i_oini, i_iret, i_zret, i_aret, i_vret, z_fit, List.getElem?_cons_zero, List.getElem?_cons_succ, List.set_cons_zero, List.set_cons_succ, Nat.reduceAdd, Nat.reduceLT, Nat.reduceLeDiff, Nat.reduceEqDiff, Nat.zero_lt_succ, Value.category, true_and, or_true, true_or, and_true, false_implies, true_implies, not_false_eq_true, not_true_eq_false, List.map_cons, List.map_nil, List.sum_cons, List.sum_nil, va_up_eq, bx_uu, va_up_lit, List.length_cons, List.length_nil, List.drop_succ_cons, List.drop_zero, Option.toList_some, Option.toList_none, List.cons_append, List.nil_append]))
  (try refine zS_one rfl ?_)
  refine r_callI (c_Stinit (L, xs) 6 (va_up_eq _ _ _)) rfl rfl rfl rfl (by decide) (by decide) ?_
  rintro r ⟨f1, N1⟩ ⟨rfl, hN1, hn1, -⟩
  have hN1' : N1 = 15 := hN1
  subst hN1'
  (repeat (refine zS_one rfl ?_; simp (disch := (first | decide | assumption | omega)) only [i_push, i_null, i_ild, i_ald, i_ist, i_ast, i_inc, i_bin, i_div, i_un, i_dup, i_pop, i_dup2, i_if, i_icmp, i_nul, i_nnl, i_goto, i_getf, i_putf, i_gets, i_nald, i_nast, i_aald, i_aast, i_alen, i_new, i_newa, i_newq, i_math, i_oini, i_iret, i_zret, i_aret, i_vret, z_fit, List.getElem?_cons_zero, List.getElem?_cons_succ, List.set_cons_zero, List.set_cons_succ, Nat.reduceAdd, Nat.reduceLT, Nat.reduceLeDiff, Nat.reduceEqDiff, Nat.zero_lt_succ, Value.category, true_and, or_true, true_or, and_true, false_implies, true_implies, not_false_eq_true, not_true_eq_false, List.map_cons, List.map_nil, List.sum_cons, List.sum_nil, va_up_eq, bx_uu, va_up_lit, List.length_cons, List.length_nil, List.drop_succ_cons, List.drop_zero, Option.toList_some, Option.toList_none, List.cons_append, List.nil_append]))
  (try refine zS_one rfl ?_)
  refine r_callI (c_Moinit (L, xs) 7 (va_up_eq _ _ _)) rfl rfl rfl rfl (by decide) (by decide) ?_
  rintro r h2 ⟨rfl, hN2, hS2, hf2⟩
  have hn2 : nwC h2 := nwC_f hn1 (fun q hq => (hf2 q (Or.inl hq)).trans (va_up_lit _ _ _ _ (by omega)))
  have := z_loop (xs := xs) hL 512 0 h2 44 13201 (by omega) (by omega) (nw_RLe hn2 hS2 hN2) (by omega) (by omega)
  unfold lwZ at this
  (iterate 3 (refine zS_one rfl ?_; simp (disch := (first | decide | assumption | omega)) only [i_push, i_null, i_ild, i_ald, i_ist, i_ast, i_inc, i_bin, i_div, i_un, i_dup, i_pop, i_dup2, i_if, i_icmp, i_nul, i_nnl, i_goto, i_getf, i_putf, i_gets, i_nald, i_nast, i_aald, i_aast, i_alen, i_new, i_newa, i_newq, i_math, i_oini, i_iret, i_zret, i_aret, i_vret, z_fit, List.getElem?_cons_zero, List.getElem?_cons_succ, List.set_cons_zero, List.set_cons_succ, Nat.reduceAdd, Nat.reduceLT, Nat.reduceLeDiff, Nat.reduceEqDiff, Nat.zero_lt_succ, Value.category, true_and, or_true, true_or, and_true, false_implies, true_implies, not_false_eq_true, not_true_eq_false, List.map_cons, List.map_nil, List.sum_cons, List.sum_nil, va_up_eq, bx_uu, va_up_lit, List.length_cons, List.length_nil, List.drop_succ_cons, List.drop_zero, Option.toList_some, Option.toList_none, List.cons_append, List.nil_append, nI_1']))
  exact this
