theorem tickV_up (V : Nat → zV) (j : Nat) : va_up (tickV V j) j (tickI (V j).1, (V j).2) = tickV V (j + 1) := by
  funext t
  unfold va_up tickV
  by_cases ht : t = j
  · subst ht
    rw [if_pos rfl, if_pos (by omega)]
  · rw [if_neg ht]
    by_cases h2 : t < j
    · rw [if_pos h2, if_pos (by omega)]
    · rw [if_neg h2, if_neg (by omega)]
section MOT
variable {h0 : zH} {S : Nat → Int32} {A : Nat → Nat → Int32} {ns n made m : Nat} {den : Nat → zT} {G : Nat → Int32} {ps : Nat → List zT} {V : Nat → zV}
theorem MO.tk {h' : zH} {s : Nat} {c : Int32} (hM : MO h0 ns n made den G m ps V S A) (hs : s < ns) (hc : c = 0 ∨ c = 1) (hW : MW h' S (va_up (va_up A 37 (upd (A 37) s ((V s).1 9 + 1))) 36 (upd (A 36) s c)) n den) : MO h' ns n made den G m ps (va_up V s (va_up (va_up (V s).1 9 ((V s).1 9 + 1)) 8 c, (V s).2)) S (va_up (va_up A 37 (upd (A 37) s ((V s).1 9 + 1))) 36 (upd (A 36) s c)) := by
  obtain ⟨-, hS3, hbb, hg, hr, hvv, hzz⟩ := hM
  have to : ∀ p, p < 36 → va_up (va_up A 37 (upd (A 37) s ((V s).1 9 + 1))) 36 (upd (A 36) s c) p = A p := fun p q1 => by rw [va_up_lit _ _ _ _ (by omega), va_up_lit _ _ _ _ (by omega)]
  have tq : ∀ p t, t ≠ s → va_up (va_up A 37 (upd (A 37) s ((V s).1 9 + 1))) 36 (upd (A 36) s c) p t = A p t := by
    intro p t hts
    by_cases y1 : p = 36
    · subst y1; rw [va_up_eq, upd_n hts]
    · rw [va_up_lit _ _ _ _ y1]
      by_cases y2 : p = 37
      · subst y2; rw [va_up_eq, upd_n hts]
      · rw [va_up_lit _ _ _ _ y2]
  refine ⟨hW, hS3, hbb, fun j hj => ?_, fun i hi => ?_, fun t ht' => ?_, fun p t q1 q2 q3 q4 => ?_⟩
  · rw [to 24 (by decide)]; exact hg j hj
  · unfold mrow
    rw [to 22 (by decide), to 23 (by decide)]
    exact hr i hi
  · by_cases q : t = s
    · subst q
      rw [va_up_eq]
      exact tick_sV (hvv t hs) hc
    · rw [va_up_lit _ _ _ _ q]
      exact (hvv t ht').ext (c := 0) exM.rf (fun p _ _ => tq p t q)
  · rw [tq p t (by omega)]; exact hzz p t q1 q2 q3 q4
set_option maxHeartbeats 8000000 in
theorem c_Mtick (sc : Nat × (Nat → Int32)) (d : Nat) (hM : MO h0 ns n made den G m ps V S A) (hst : ∀ s, s < ns → ¬ lim (V s).1 < (V s).1 7) (htk : ∀ s, s < ns → (V s).1 8 = 0 → ¬ (V s).1 9 + 1 < tlim (V s).1 → (V s).1 9 + 1 = tlim (V s).1) : zMt zTab sc (d + 3) 113 [.ref 15] h0 0 0 (fun r h' => r = some (.int (nI (tcnt V ns))) ∧ frN h0 h' ∧ ∃ A', MO h' ns n made den G m ps (tickV V ns) S A') := by
  have hn12 := hM.2.2.1.1
  have q10 : ¬ (1 : Int32) = 0 := by decide
  have q11 : (1 : Int32) &&& 1 = 1 := by decide
  have q00 : (0 : Int32) &&& 1 = 0 := by decide
  refine zM_gen fun P hP => ?_
  refine zM_start (r := r_Mo_tick) (cd := k_Mo_tick) (L0 := [some (.ref 15), none, none]) rfl rfl rfl rfl rfl ?_
  have loop : ∀ (c j : Nat) (h : zH) (A : Nat → Nat → Int32), j + c = ns → MO h ns n made den G m ps (tickV V j) S A → frN h0 h → zS (zMt zTab sc (d + 2), (0, 0), sc) k_Mo_tick P (4, [some (.ref 15), some (.int (nI (tcnt V j))), some (.int (nI j))], [], h, 0, 0) := by
    intro c
    induction c with
    | zero =>
      intro j h A hj hM hf
      have hj' : j = ns := hj
      subst hj'
      have o := hM.1.o
      rw [hM.2.1.2.2] at o
      have w : nI j ≤ nI j := nI_le (Nat.le_refl _) (by omega)
      (repeat (refine zS_one rfl ?_; simp (disch := (first | decide | assumption | omega)) only [i_push, i_null, i_ild, i_ald, i_ist, i_ast, i_inc, i_bin, i_div, i_un, i_dup, i_pop, i_dup2, i_if, i_icmp, i_nul, i_nnl, i_goto, i_getf, i_putf, i_gets, i_nald, i_nast, i_aald, i_aast, i_alen, i_new, i_newa, i_newq, i_math, i_oini, i_iret, i_zret, i_aret, i_vret, z_fit, List.getElem?_cons_zero, List.getElem?_cons_succ, List.set_cons_zero, List.set_cons_succ, Nat.reduceAdd, Nat.reduceLT, Nat.reduceLeDiff, Nat.reduceEqDiff, Nat.zero_lt_succ, Value.category, true_and, or_true, true_or, and_true, false_implies, true_implies, not_false_eq_true, not_true_eq_false, List.map_cons, List.map_nil, List.sum_cons, List.sum_nil, va_up_eq, bx_uu, va_up_lit, List.length_cons, List.length_nil, List.drop_succ_cons, List.drop_zero, Option.toList_some, Option.toList_none, List.cons_append, List.nil_append, o, w]))
      exact hP _ _ ⟨rfl, hf, A, hM⟩
    | succ c ih =>
      intro j h A hj hM hf
      have o := hM.1.o
      rw [hM.2.1.2.2] at o
      have w : ¬ nI ns ≤ nI j := nI_ge (by omega) (by omega)
      have w3 : vp_in (nI j) 12 := vp_in_nI (by omega) (by decide)
      have w4 : (nI j).toNatClampNeg = j := nI_clamp (by omega)
      have hW := hM.1
      have a36 := hW.a 36 1 12 (by decide) (by decide) rfl rfl
      have a37 := hW.a 37 0 12 (by decide) (by decide) rfl rfl
      have hVj : tickV V j j = V j := if_neg (Nat.lt_irrefl _)
      have hv := hM.2.2.2.2.2.1 j (by omega)
      rw [hVj] at hv
      have e36 := hv.2.2.2.2.1.2.2.1
      have e37 := hv.2.2.2.2.1.2.2.2.1
      have hI := hv.2.2.2.2.2.2.1
      have up := tickV_up V j
      have hle := tcnt_le V j
      by_cases hc : (V j).1 8 = 0
      rotate_left
      · have ec : tcnt V (j + 1) = tcnt V j := by
          show tcnt V j + _ = _
          rw [if_neg (fun z => hc z.1)]
          rfl
        have et : tickI (V j).1 = (V j).1 := if_neg hc
        have up2 : tickV V (j + 1) = tickV V j := by
          rw [← up, et]
          have := va_up_id (tickV V j) j
          rw [hVj] at this
          exact this
        have := ih (j + 1) h A (by omega) (by rw [up2]; exact hM) hf
        rw [ec] at this
        (iterate 11 (refine zS_one rfl ?_; simp (disch := (first | decide | assumption | omega)) only [i_push, i_null, i_ild, i_ald, i_ist, i_ast, i_inc, i_bin, i_div, i_un, i_dup, i_pop, i_dup2, i_if, i_icmp, i_nul, i_nnl, i_goto, i_getf, i_putf, i_gets, i_nald, i_nast, i_aald, i_aast, i_alen, i_new, i_newa, i_newq, i_math, i_oini, i_iret, i_zret, i_aret, i_vret, z_fit, List.getElem?_cons_zero, List.getElem?_cons_succ, List.set_cons_zero, List.set_cons_succ, Nat.reduceAdd, Nat.reduceLT, Nat.reduceLeDiff, Nat.reduceEqDiff, Nat.zero_lt_succ, Value.category, true_and, or_true, true_or, and_true, false_implies, true_implies, not_false_eq_true, not_true_eq_false, List.map_cons, List.map_nil, List.sum_cons, List.sum_nil, va_up_eq, bx_uu, va_up_lit, List.length_cons, List.length_nil, List.drop_succ_cons, List.drop_zero, Option.toList_some, Option.toList_none, List.cons_append, List.nil_append, o, a36, w, w3, w4, e36, hc, nI_1']))
        exact this
      have hW1 := hW.put 37 (upd (A 37) j ((V j).1 9 + 1)) (kd := 0) (ln := 12) (by decide) (by decide) rfl rfl
      have us : ∀ (f : Nat → Int32) (x : Int32), upd f j x j = x := fun f x => upd_s
      have fin : ∀ c' : Int32, c' = (if (V j).1 9 + 1 < tlim (V j).1 then 0 else 1) → (∀ x, x = nI (tcnt V j) + c' → zS (zMt zTab sc (d + 2), (0, 0), sc) k_Mo_tick P (4, [some (.ref 15), some (.int x), some (.int (nI (j + 1)))], [], (va_up (va_up h.1 37 (.inl (0, 12, .inl (upd (A 37) j ((V j).1 9 + 1))))) 36 (.inl (1, 12, .inl (upd (A 36) j c'))), h.2), 0, 0)) := by
        intro c' hc' x hx
        have h01 : c' = 0 ∨ c' = 1 := by rw [hc']; split; exact Or.inl rfl; exact Or.inr rfl
        have hW2 := hW1.put 36 (upd (A 36) j c') (kd := 1) (ln := 12) (by decide) (by decide) rfl rfl
        have hM2 := hM.tk (s := j) (c := c') (by omega) h01 (by rw [hVj]; exact hW2)
        have et : tickI (V j).1 = va_up (va_up (V j).1 9 ((V j).1 9 + 1)) 8 c' := by rw [hc']; exact if_pos hc
        rw [hVj, ← et, up] at hM2
        have := ih (j + 1) _ _ (by omega) hM2 ((hf.tr (frN.put (by decide) (by decide))).tr (frN.put (by decide) (by decide)))
        have ec : nI (tcnt V (j + 1)) = x := by
          rw [hx]
          show nI (tcnt V j + _) = _
          rw [et, va_up_eq]
          rcases h01 with h | h
          · rw [h, if_neg (fun z => z.2 rfl), Nat.add_zero]
            exact (Int32.add_zero _).symm
          · rw [h, if_pos ⟨hc, q10⟩]
            exact (nI_1' _).symm
        rw [ec] at this
        exact this
      (repeat (refine zS_one rfl ?_; simp (disch := (first | decide | assumption | omega)) only [i_push, i_null, i_ild, i_ald, i_ist, i_ast, i_inc, i_bin, i_div, i_un, i_dup, i_pop, i_dup2, i_if, i_icmp, i_nul, i_nnl, i_goto, i_getf, i_putf, i_gets, i_nald, i_nast, i_aald, i_aast, i_alen, i_new, i_newa, i_newq, i_math, i_oini, i_iret, i_zret, i_aret, i_vret, z_fit, List.getElem?_cons_zero, List.getElem?_cons_succ, List.set_cons_zero, List.set_cons_succ, Nat.reduceAdd, Nat.reduceLT, Nat.reduceLeDiff, Nat.reduceEqDiff, Nat.zero_lt_succ, Value.category, true_and, or_true, true_or, and_true, false_implies, true_implies, not_false_eq_true, not_true_eq_false, List.map_cons, List.map_nil, List.sum_cons, List.sum_nil, va_up_eq, bx_uu, va_up_lit, List.length_cons, List.length_nil, List.drop_succ_cons, List.drop_zero, Option.toList_some, Option.toList_none, List.cons_append, List.nil_append, o, a36, a37, w, w3, w4, e36, e37, hc, us]))
      (try refine zS_one rfl ?_)
      refine r_callV (c_isDoneW sc d hW1 (I := (V j).1) (s := j) (by omega) (by rw [va_up_lit _ _ _ _ (by decide)]; exact hv.1.1) (by rw [va_up_lit _ _ _ _ (by decide)]; exact hv.2.2.2.2.1.2.1) hI (hst j (by omega))) rfl rfl rfl rfl hW1.f (Nat.le_refl _) (Nat.le_refl _) ?_
      rintro r h' ⟨rfl, ⟨rfl, hd⟩ | ⟨rfl, hd⟩⟩
      · have hl : tlim (V j).1 = 30 := if_neg hd
        have hk := htk j (by omega) hc
        rw [hl] at fin hk
        by_cases z : (V j).1 9 + 1 < 30
        · have z2 : ¬ (V j).1 9 + 1 = 30 := fun e => by rw [e] at z; exact absurd z (by decide)
          have := fin 0 (by rw [if_pos z]) (nI (tcnt V j)) (Int32.add_zero _).symm
          (iterate 15 (refine zS_one rfl ?_; simp (disch := (first | decide | assumption | omega)) only [i_push, i_null, i_ild, i_ald, i_ist, i_ast, i_inc, i_bin, i_div, i_un, i_dup, i_pop, i_dup2, i_if, i_icmp, i_nul, i_nnl, i_goto, i_getf, i_putf, i_gets, i_nald, i_nast, i_aald, i_aast, i_alen, i_new, i_newa, i_newq, i_math, i_oini, i_iret, i_zret, i_aret, i_vret, z_fit, List.getElem?_cons_zero, List.getElem?_cons_succ, List.set_cons_zero, List.set_cons_succ, Nat.reduceAdd, Nat.reduceLT, Nat.reduceLeDiff, Nat.reduceEqDiff, Nat.zero_lt_succ, Value.category, true_and, or_true, true_or, and_true, false_implies, true_implies, not_false_eq_true, not_true_eq_false, List.map_cons, List.map_nil, List.sum_cons, List.sum_nil, va_up_eq, bx_uu, va_up_lit, List.length_cons, List.length_nil, List.drop_succ_cons, List.drop_zero, Option.toList_some, Option.toList_none, List.cons_append, List.nil_append, o, a36, w3, w4, q10, q00, z2, us, nI_1']))
          exact this
        · have z2 := hk z
          have := fin 1 (by rw [if_neg z]) _ rfl
          (iterate 19 (refine zS_one rfl ?_; simp (disch := (first | decide | assumption | omega)) only [i_push, i_null, i_ild, i_ald, i_ist, i_ast, i_inc, i_bin, i_div, i_un, i_dup, i_pop, i_dup2, i_if, i_icmp, i_nul, i_nnl, i_goto, i_getf, i_putf, i_gets, i_nald, i_nast, i_aald, i_aast, i_alen, i_new, i_newa, i_newq, i_math, i_oini, i_iret, i_zret, i_aret, i_vret, z_fit, List.getElem?_cons_zero, List.getElem?_cons_succ, List.set_cons_zero, List.set_cons_succ, Nat.reduceAdd, Nat.reduceLT, Nat.reduceLeDiff, Nat.reduceEqDiff, Nat.zero_lt_succ, Value.category, true_and, or_true, true_or, and_true, false_implies, true_implies, not_false_eq_true, not_true_eq_false, List.map_cons, List.map_nil, List.sum_cons, List.sum_nil, va_up_eq, bx_uu, va_up_lit, List.length_cons, List.length_nil, List.drop_succ_cons, List.drop_zero, Option.toList_some, Option.toList_none, List.cons_append, List.nil_append, o, a36, w3, w4, q10, q11, z2, us, nI_1']))
          rw [nI_1', z2] at this
          exact this
      · have hl : tlim (V j).1 = 6 := if_pos hd
        have hk := htk j (by omega) hc
        rw [hl] at fin hk
        by_cases z : (V j).1 9 + 1 < 6
        · have z2 : ¬ (V j).1 9 + 1 = 6 := fun e => by rw [e] at z; exact absurd z (by decide)
          have := fin 0 (by rw [if_pos z]) (nI (tcnt V j)) (Int32.add_zero _).symm
          (iterate 14 (refine zS_one rfl ?_; simp (disch := (first | decide | assumption | omega)) only [i_push, i_null, i_ild, i_ald, i_ist, i_ast, i_inc, i_bin, i_div, i_un, i_dup, i_pop, i_dup2, i_if, i_icmp, i_nul, i_nnl, i_goto, i_getf, i_putf, i_gets, i_nald, i_nast, i_aald, i_aast, i_alen, i_new, i_newa, i_newq, i_math, i_oini, i_iret, i_zret, i_aret, i_vret, z_fit, List.getElem?_cons_zero, List.getElem?_cons_succ, List.set_cons_zero, List.set_cons_succ, Nat.reduceAdd, Nat.reduceLT, Nat.reduceLeDiff, Nat.reduceEqDiff, Nat.zero_lt_succ, Value.category, true_and, or_true, true_or, and_true, false_implies, true_implies, not_false_eq_true, not_true_eq_false, List.map_cons, List.map_nil, List.sum_cons, List.sum_nil, va_up_eq, bx_uu, va_up_lit, List.length_cons, List.length_nil, List.drop_succ_cons, List.drop_zero, Option.toList_some, Option.toList_none, List.cons_append, List.nil_append, o, a36, w3, w4, q10, q00, z2, us, nI_1']))
          exact this
        · have z2 := hk z
          have := fin 1 (by rw [if_neg z]) _ rfl
          (iterate 18 (refine zS_one rfl ?_; simp (disch := (first | decide | assumption | omega)) only [i_push, i_null, i_ild, i_ald, i_ist, i_ast, i_inc, i_bin, i_div, i_un, i_dup, i_pop, i_dup2, i_if, i_icmp, i_nul, i_nnl, i_goto, i_getf, i_putf, i_gets, i_nald, i_nast, i_aald, i_aast, i_alen, i_new, i_newa, i_newq, i_math, i_oini, i_iret, i_zret, i_aret, i_vret, z_fit, List.getElem?_cons_zero, List.getElem?_cons_succ, List.set_cons_zero, List.set_cons_succ, Nat.reduceAdd, Nat.reduceLT, Nat.reduceLeDiff, Nat.reduceEqDiff, Nat.zero_lt_succ, Value.category, true_and, or_true, true_or, and_true, false_implies, true_implies, not_false_eq_true, not_true_eq_false, List.map_cons, List.map_nil, List.sum_cons, List.sum_nil, va_up_eq, bx_uu, va_up_lit, List.length_cons, List.length_nil, List.drop_succ_cons, List.drop_zero, Option.toList_some, Option.toList_none, List.cons_append, List.nil_append, o, a36, w3, w4, q10, q11, z2, us, nI_1']))
          rw [nI_1', z2] at this
          exact this
  (iterate 4 (refine zS_one rfl ?_; simp (disch := (first | decide | assumption | omega)) only [i_push, i_null, i_ild, i_ald, i_ist, i_ast, i_inc, i_bin, i_div, i_un, i_dup, i_pop, i_dup2, i_if, i_icmp, i_nul, i_nnl, i_goto, i_getf, i_putf, i_gets, i_nald, i_nast, i_aald, i_aast, i_alen, i_new, i_newa, i_newq, i_math, i_oini, i_iret, i_zret, i_aret, i_vret, z_fit, List.getElem?_cons_zero, List.getElem?_cons_succ, List.set_cons_zero, List.set_cons_succ, Nat.reduceAdd, Nat.reduceLT, Nat.reduceLeDiff, Nat.reduceEqDiff, Nat.zero_lt_succ, Value.category, true_and, or_true, true_or, and_true, false_implies, true_implies, not_false_eq_true, not_true_eq_false, List.map_cons, List.map_nil, List.sum_cons, List.sum_nil, va_up_eq, bx_uu, va_up_lit, List.length_cons, List.length_nil, List.drop_succ_cons, List.drop_zero, Option.toList_some, Option.toList_none, List.cons_append, List.nil_append, nI_1']))
  have hV0 : tickV V 0 = V := by funext s; exact if_neg (Nat.not_lt_zero _)
  exact loop ns 0 h0 A (by omega) (by rw [hV0]; exact hM) frN.rf
end MOT
