theorem tOK.same' {h h' : zH} {n k lo hi : Nat} {den : Nat → zT} {G : Nat → Int32} (hO : tOK h n k den G) (hf : fr lo hi h h') (h1 : 11 ≤ lo) : tOK h' n k den G := by
  obtain ⟨T, ⟨q1, q2, q3, q4, q5, q6, q7, q8, q9, q10⟩, hI⟩ := hO
  exact ⟨T, ⟨(hf.1 _ (by omega)).trans q1, (hf.1 _ (by omega)).trans q2, (hf.1 _ (by omega)).trans q3, (hf.1 _ (by omega)).trans q4, (hf.1 _ (by omega)).trans q5, (hf.1 _ (by omega)).trans q6, (hf.1 _ (by omega)).trans q7, (hf.1 _ (by omega)).trans q8, (hf.1 _ (by omega)).trans q9, (hf.1 _ (by omega)).trans q10⟩, hI⟩
section ST4
variable {h0 : zH} {ns n k m : Nat} {den : Nat → zT} {G : Nat → Int32} {ps : Nat → List zT} {V : Nat → zV}
theorem tickI_t (I : Nat → Int32) : (∀ q, q < 8 → tickI I q = I q) ∧ (∀ q, 10 ≤ q → tickI I q = I q) ∧ (I 8 = 0 ∨ I 8 = 1 → tickI I 8 = 0 ∨ tickI I 8 = 1) := by
  unfold tickI
  split
  · refine ⟨fun q hq => ?_, fun q hq => ?_, fun _ => ?_⟩
    · rw [va_up_lit _ _ _ _ (by omega), va_up_lit _ _ _ _ (by omega)]
    · rw [va_up_lit _ _ _ _ (by omega), va_up_lit _ _ _ _ (by omega)]
    · rw [va_up_eq]; split; exact Or.inl rfl; exact Or.inr rfl
  · exact ⟨fun _ _ => rfl, fun _ _ => rfl, fun h => h⟩
theorem sOK_tick {h h' : zH} {b : Nat} {I : Nat → Int32} {Θ : Nat → zT} {K : Nat → Int32} (hs : sOK h b n den I Θ K) (h1 : h'.1 b = .inr (3, sF b (tickI I))) (h2 : ∀ q, q ≠ b → h'.1 q = h.1 q) : sOK h' b n den (tickI I) Θ K := by
  obtain ⟨t1, t2, t3⟩ := tickI_t I
  obtain ⟨e1, ⟨sk, rk, e2, hk⟩, e3, ⟨x, y, z, ea, hx, hy, hz, hI⟩, ⟨J, hJ, eJ⟩, h8⟩ := hs
  have hl : lim (tickI I) = lim I := by unfold lim; rw [t1 0 (by decide)]
  have hsk : skT (tickI I) Θ = skT I Θ := by unfold skT; rw [t1 1 (by decide)]
  have hrk : rkT (tickI I) Θ = rkT I Θ := by unfold rkT; rw [t1 1 (by decide)]
  refine ⟨h1, ⟨sk, rk, ?_, ?_⟩, (h2 _ (by omega)).trans e3, ⟨x, y, z, ?_, hx, hy, hz, ?_⟩, ⟨J, hJ, (h2 _ (by omega)).trans eJ⟩, t3 h8⟩
  · rw [h2 _ (by omega), e2]
    unfold cF
    rw [t2 12 (by decide), t2 13 (by decide)]
  · rw [hl, t1 7 (by decide)]
    intro w
    have := hk w
    unfold keyed at this ⊢
    rw [hsk, hrk]
    exact this
  · rw [h2 _ (by omega), ea]
    unfold aF
    rw [t1 0 (by decide), t1 1 (by decide), t1 2 (by decide), t1 3 (by decide), t1 4 (by decide), t1 5 (by decide), t1 6 (by decide), t1 7 (by decide)]
  · unfold iOK
    rw [t1 0 (by decide), t1 1 (by decide), t1 2 (by decide), t1 3 (by decide), t1 4 (by decide), t1 5 (by decide), t1 7 (by decide)]
    exact hI
/-- how many of the first s sessions this tick closes -/
def tcnt (V : Nat → zV) : Nat → Nat
  | 0 => 0
  | s + 1 => tcnt V s + (if (V s).1 8 = 0 ∧ ¬ tickI (V s).1 8 = 0 then 1 else 0)
def tickV (V : Nat → zV) (j : Nat) : Nat → zV := fun s => if s < j then (tickI (V s).1, (V s).2) else V s
theorem tcnt_le (V : Nat → zV) : ∀ s, tcnt V s ≤ s
  | 0 => Nat.le_refl _
  | s + 1 => by
    have := tcnt_le V s
    unfold tcnt
    split <;> omega
set_option maxHeartbeats 4000000 in
theorem c_Sttick (sc : Nat × (Nat → Int32)) (d : Nat) (hC : cOK h0 ns n k den G m ps V) : zMt zTab sc (d + 3) 64 [.ref 0] h0 0 0 (fun r h' => r = some (.int (nI (tcnt V ns))) ∧ cOK h' ns n k den G m ps (tickV V ns) ∧ frM h0 h') := by
  have h12 := hC.2.1
  refine zM_gen fun P hP => ?_
  refine zM_start (r := r_St_tick) (cd := k_St_tick) (L0 := [some (.ref 0), none, none, none]) rfl rfl rfl rfl rfl ?_
  have loop : ∀ (c j : Nat) (x : Option Value) (h : zH), j + c = ns → cOK h ns n k den G m ps (tickV V j) → frM h0 h → zS (zMt zTab sc (d + 2), (0, 0), sc) k_St_tick P (4, [some (.ref 0), some (.int (nI (tcnt V j))), some (.int (nI j)), x], [], h, 0, 0) := by
    intro c
    induction c with
    | zero =>
      intro j x h hj hC hf
      have hj' : j = ns := hj
      subst hj'
      have e0 := hC.1
      have w : nI j ≤ nI j := nI_le (Nat.le_refl _) (by omega)
      (repeat (refine zS_one rfl ?_; simp (disch := (first | decide | assumption | omega)) only [i_push, i_null, i_ild, i_ald, i_ist, i_ast, i_inc, i_bin, i_div, i_un, i_dup, i_pop, i_dup2, i_if, i_icmp, i_nul, i_nnl, i_goto, i_getf, i_putf, i_gets, i_nald, i_nast, i_aald, i_aast, i_alen, i_new, i_newa, i_newq, i_math, i_oini, i_iret, i_zret, i_aret, i_vret, z_fit, List.getElem?_cons_zero, List.getElem?_cons_succ, List.set_cons_zero, List.set_cons_succ, Nat.reduceAdd, Nat.reduceLT, Nat.reduceLeDiff, Nat.reduceEqDiff, Nat.zero_lt_succ, Value.category, true_and, or_true, true_or, and_true, false_implies, true_implies, not_false_eq_true, not_true_eq_false, List.map_cons, List.map_nil, List.sum_cons, List.sum_nil, va_up_eq, bx_uu, va_up_lit, List.length_cons, List.length_nil, List.drop_succ_cons, List.drop_zero, Option.toList_some, Option.toList_none, List.cons_append, List.nil_append, e0, w]))
      exact hP _ _ ⟨rfl, hC, hf⟩
    | succ c ih =>
      intro j x h hj hC hf
      have e0 := hC.1
      have w : ¬ nI ns ≤ nI j := nI_ge (by omega) (by omega)
      (repeat (refine zS_one rfl ?_; simp (disch := (first | decide | assumption | omega)) only [i_push, i_null, i_ild, i_ald, i_ist, i_ast, i_inc, i_bin, i_div, i_un, i_dup, i_pop, i_dup2, i_if, i_icmp, i_nul, i_nnl, i_goto, i_getf, i_putf, i_gets, i_nald, i_nast, i_aald, i_aast, i_alen, i_new, i_newa, i_newq, i_math, i_oini, i_iret, i_zret, i_aret, i_vret, z_fit, List.getElem?_cons_zero, List.getElem?_cons_succ, List.set_cons_zero, List.set_cons_succ, Nat.reduceAdd, Nat.reduceLT, Nat.reduceLeDiff, Nat.reduceEqDiff, Nat.zero_lt_succ, Value.category, true_and, or_true, true_or, and_true, false_implies, true_implies, not_false_eq_true, not_true_eq_false, List.map_cons, List.map_nil, List.sum_cons, List.sum_nil, va_up_eq, bx_uu, va_up_lit, List.length_cons, List.length_nil, List.drop_succ_cons, List.drop_zero, Option.toList_some, Option.toList_none, List.cons_append, List.nil_append, e0, w]))
      (try refine zS_one rfl ?_)
      refine r_callV (c_sessionAt sc (d + 1) hC (nI j)) rfl rfl rfl rfl hC.1 (Nat.le_refl _) (Nat.le_refl _) ?_
      rintro r h' ⟨rfl, ⟨s, hs, es, rfl⟩ | ⟨rfl, hno⟩⟩
      rotate_left
      · exact absurd rfl (hno j (by omega))
      have := nI_inj (by omega) (by omega) es
      subst this
      have hS := hC.2.2.2.2.2.1 j (by omega)
      have hVj : tickV V j j = V j := if_neg (Nat.lt_irrefl _)
      rw [hVj] at hS
      obtain ⟨x0, y0, z0, ea, -⟩ := hS.2.2.2.1
      (repeat (refine zS_one rfl ?_; simp (disch := (first | decide | assumption | omega)) only [i_push, i_null, i_ild, i_ald, i_ist, i_ast, i_inc, i_bin, i_div, i_un, i_dup, i_pop, i_dup2, i_if, i_icmp, i_nul, i_nnl, i_goto, i_getf, i_putf, i_gets, i_nald, i_nast, i_aald, i_aast, i_alen, i_new, i_newa, i_newq, i_math, i_oini, i_iret, i_zret, i_aret, i_vret, z_fit, List.getElem?_cons_zero, List.getElem?_cons_succ, List.set_cons_zero, List.set_cons_succ, Nat.reduceAdd, Nat.reduceLT, Nat.reduceLeDiff, Nat.reduceEqDiff, Nat.zero_lt_succ, Value.category, true_and, or_true, true_or, and_true, false_implies, true_implies, not_false_eq_true, not_true_eq_false, List.map_cons, List.map_nil, List.sum_cons, List.sum_nil, va_up_eq, bx_uu, va_up_lit, List.length_cons, List.length_nil, List.drop_succ_cons, List.drop_zero, Option.toList_some, Option.toList_none, List.cons_append, List.nil_append]))
      (try refine zS_one rfl ?_)
      refine r_callV (c_passTick sc d (b := 44 + 5 * j) (by omega) hS.1 ea) rfl rfl rfl rfl hS.1 (Nat.le_refl _) (Nat.le_refl _) ?_
      rintro r h1 ⟨hr, g1, g2, g3⟩
      have hS1 := sOK_tick hS g1 g2
      have hf1 : frS (44 + 5 * j) h' h1 := ⟨fun q _ hq => g2 q (by omega), g3⟩
      have hC1 : cOK h1 ns n k den G m ps (tickV V (j + 1)) := by
        have := hC.step (s := j) (v := (tickI (V j).1, (V j).2)) (c := 0) hs exq.rf (hC.2.2.2.1.same (fun q hq => g2 q (by omega))) (hC.2.2.2.2.1.same (fun q hq => g2 q (by omega))) hS1 hf1
        have e : va_up (tickV V j) j (tickI (V j).1, (V j).2) = tickV V (j + 1) := by
          funext t
          unfold va_up tickV
          by_cases ht : t = j
          · subst ht
            rw [if_pos rfl, if_pos (by omega)]
          · rw [if_neg ht]
            by_cases h2 : t < j
            · rw [if_pos h2, if_pos (by omega)]
            · rw [if_neg h2, if_neg (by omega)]
        rw [e] at this
        exact this
      have hf2 : frM h0 h1 := hf.tr (hf1.M (by omega))
      have hle := tcnt_le V j
      rcases hr with ⟨q0, rfl⟩ | ⟨q0, rfl⟩
      · rcases (tickI_t (V j).1).2.2 hS.2.2.2.2.2 with q1 | q1
        · have ec : tcnt V (j + 1) = tcnt V j := by
            show tcnt V j + _ = _
            rw [if_neg (fun z => z.2 q1)]
            rfl
          have := ih (j + 1) (some (.ref (44 + 5 * j))) h1 (by omega) hC1 hf2
          rw [ec] at this
          (iterate 3 (refine zS_one rfl ?_; simp (disch := (first | decide | assumption | omega)) only [i_push, i_null, i_ild, i_ald, i_ist, i_ast, i_inc, i_bin, i_div, i_un, i_dup, i_pop, i_dup2, i_if, i_icmp, i_nul, i_nnl, i_goto, i_getf, i_putf, i_gets, i_nald, i_nast, i_aald, i_aast, i_alen, i_new, i_newa, i_newq, i_math, i_oini, i_iret, i_zret, i_aret, i_vret, z_fit, List.getElem?_cons_zero, List.getElem?_cons_succ, List.set_cons_zero, List.set_cons_succ, Nat.reduceAdd, Nat.reduceLT, Nat.reduceLeDiff, Nat.reduceEqDiff, Nat.zero_lt_succ, Value.category, true_and, or_true, true_or, and_true, false_implies, true_implies, not_false_eq_true, not_true_eq_false, List.map_cons, List.map_nil, List.sum_cons, List.sum_nil, va_up_eq, bx_uu, va_up_lit, List.length_cons, List.length_nil, List.drop_succ_cons, List.drop_zero, Option.toList_some, Option.toList_none, List.cons_append, List.nil_append, q1, nI_1']))
          exact this
        · have q10 : ¬ (1 : Int32) = 0 := by decide
          have ec : tcnt V (j + 1) = tcnt V j + 1 := by
            show tcnt V j + _ = _
            rw [if_pos ⟨q0, by rw [q1]; decide⟩]
          have := ih (j + 1) (some (.ref (44 + 5 * j))) h1 (by omega) hC1 hf2
          rw [ec] at this
          (iterate 4 (refine zS_one rfl ?_; simp (disch := (first | decide | assumption | omega)) only [i_push, i_null, i_ild, i_ald, i_ist, i_ast, i_inc, i_bin, i_div, i_un, i_dup, i_pop, i_dup2, i_if, i_icmp, i_nul, i_nnl, i_goto, i_getf, i_putf, i_gets, i_nald, i_nast, i_aald, i_aast, i_alen, i_new, i_newa, i_newq, i_math, i_oini, i_iret, i_zret, i_aret, i_vret, z_fit, List.getElem?_cons_zero, List.getElem?_cons_succ, List.set_cons_zero, List.set_cons_succ, Nat.reduceAdd, Nat.reduceLT, Nat.reduceLeDiff, Nat.reduceEqDiff, Nat.zero_lt_succ, Value.category, true_and, or_true, true_or, and_true, false_implies, true_implies, not_false_eq_true, not_true_eq_false, List.map_cons, List.map_nil, List.sum_cons, List.sum_nil, va_up_eq, bx_uu, va_up_lit, List.length_cons, List.length_nil, List.drop_succ_cons, List.drop_zero, Option.toList_some, Option.toList_none, List.cons_append, List.nil_append, q1, q10, nI_1']))
          exact this
      · have ec : tcnt V (j + 1) = tcnt V j := by
          show tcnt V j + _ = _
          rw [if_neg (fun z => q0 z.1)]
          rfl
        have := ih (j + 1) (some (.ref (44 + 5 * j))) h1 (by omega) hC1 hf2
        rw [ec] at this
        (iterate 3 (refine zS_one rfl ?_; simp (disch := (first | decide | assumption | omega)) only [i_push, i_null, i_ild, i_ald, i_ist, i_ast, i_inc, i_bin, i_div, i_un, i_dup, i_pop, i_dup2, i_if, i_icmp, i_nul, i_nnl, i_goto, i_getf, i_putf, i_gets, i_nald, i_nast, i_aald, i_aast, i_alen, i_new, i_newa, i_newq, i_math, i_oini, i_iret, i_zret, i_aret, i_vret, z_fit, List.getElem?_cons_zero, List.getElem?_cons_succ, List.set_cons_zero, List.set_cons_succ, Nat.reduceAdd, Nat.reduceLT, Nat.reduceLeDiff, Nat.reduceEqDiff, Nat.zero_lt_succ, Value.category, true_and, or_true, true_or, and_true, false_implies, true_implies, not_false_eq_true, not_true_eq_false, List.map_cons, List.map_nil, List.sum_cons, List.sum_nil, va_up_eq, bx_uu, va_up_lit, List.length_cons, List.length_nil, List.drop_succ_cons, List.drop_zero, Option.toList_some, Option.toList_none, List.cons_append, List.nil_append, nI_1']))
        exact this
  (iterate 4 (refine zS_one rfl ?_; simp (disch := (first | decide | assumption | omega)) only [i_push, i_null, i_ild, i_ald, i_ist, i_ast, i_inc, i_bin, i_div, i_un, i_dup, i_pop, i_dup2, i_if, i_icmp, i_nul, i_nnl, i_goto, i_getf, i_putf, i_gets, i_nald, i_nast, i_aald, i_aast, i_alen, i_new, i_newa, i_newq, i_math, i_oini, i_iret, i_zret, i_aret, i_vret, z_fit, List.getElem?_cons_zero, List.getElem?_cons_succ, List.set_cons_zero, List.set_cons_succ, Nat.reduceAdd, Nat.reduceLT, Nat.reduceLeDiff, Nat.reduceEqDiff, Nat.zero_lt_succ, Value.category, true_and, or_true, true_or, and_true, false_implies, true_implies, not_false_eq_true, not_true_eq_false, List.map_cons, List.map_nil, List.sum_cons, List.sum_nil, va_up_eq, bx_uu, va_up_lit, List.length_cons, List.length_nil, List.drop_succ_cons, List.drop_zero, Option.toList_some, Option.toList_none, List.cons_append, List.nil_append, nI_1']))
  have hV0 : tickV V 0 = V := by funext s; exact if_neg (Nat.not_lt_zero _)
  exact loop ns 0 none h0 (by omega) (by rw [hV0]; exact hC) frM.rf
set_option maxHeartbeats 4000000 in
theorem c_makeChanged (sc : Nat × (Nat → Int32)) (d : Nat) (hC : cOK h0 ns n k den G m ps V) (hm6 : m < 60) (hps : ps m = []) {a b t : Nat} (ha : a < m) (hb : b < (ps a).length) (ht : 0 < t) (htn : t ≤ n) : zMt zTab sc (d + 4) 78 [.ref 0, .int (nI a), .int (nI b), .int (nI t)] h0 0 0 (fun r h' => r = some (.int (nI m)) ∧ cOK h' ns n k den G (m + 1) (va_up ps m ((ps a).set b (den t))) V ∧ frM h0 h') := by
  have e0 := hC.1
  have hM := hC.2.2.2.2.1
  have hl3 : (ps a).length ≤ 3 := by obtain ⟨Sz, Rw, -, -, hR, -⟩ := hM; exact (hR a (by omega)).1
  refine zM_gen fun P hP => ?_
  refine zM_start (r := r_St_makeChanged) (cd := k_St_makeChanged) (L0 := [some (.ref 0), some (.int (nI a)), some (.int (nI b)), some (.int (nI t)), none]) rfl rfl rfl rfl rfl ?_
  have loop : ∀ (c j : Nat) (h : zH), j + c = (ps a).length → cOK h ns n k den G m (va_up ps m (((ps a).set b (den t)).take j)) V → fr 11 13 h0 h → zS (zMt zTab sc (d + 3), (0, 0), sc) k_St_makeChanged P (3, [some (.ref 0), some (.int (nI a)), some (.int (nI b)), some (.int (nI t)), some (.int (nI j))], [], h, 0, 0) := by
    intro c
    induction c with
    | zero =>
      intro j h hj hC hf
      have e0 := hC.1
      have hM := hC.2.2.2.2.1
      have hua : va_up ps m (((ps a).set b (den t)).take j) a = ps a := va_up_lit _ _ _ _ (by omega)
      (repeat (refine zS_one rfl ?_; simp (disch := (first | decide | assumption | omega)) only [i_push, i_null, i_ild, i_ald, i_ist, i_ast, i_inc, i_bin, i_div, i_un, i_dup, i_pop, i_dup2, i_if, i_icmp, i_nul, i_nnl, i_goto, i_getf, i_putf, i_gets, i_nald, i_nast, i_aald, i_aast, i_alen, i_new, i_newa, i_newq, i_math, i_oini, i_iret, i_zret, i_aret, i_vret, z_fit, List.getElem?_cons_zero, List.getElem?_cons_succ, List.set_cons_zero, List.set_cons_succ, Nat.reduceAdd, Nat.reduceLT, Nat.reduceLeDiff, Nat.reduceEqDiff, Nat.zero_lt_succ, Value.category, true_and, or_true, true_or, and_true, false_implies, true_implies, not_false_eq_true, not_true_eq_false, List.map_cons, List.map_nil, List.sum_cons, List.sum_nil, va_up_eq, bx_uu, va_up_lit, List.length_cons, List.length_nil, List.drop_succ_cons, List.drop_zero, Option.toList_some, Option.toList_none, List.cons_append, List.nil_append, e0]))
      (try refine zS_one rfl ?_)
      refine r_callV (c_sizeOf sc (d + 1) hM (nI a)) rfl rfl rfl rfl hM.o (Nat.le_refl _) (Nat.le_refl _) ?_
      rintro r h' ⟨rfl, ⟨a', ha', g2, rfl, -⟩ | ⟨rfl, g⟩⟩
      rotate_left
      · exact absurd rfl (g a ha)
      have := nI_inj (by omega) (by omega) g2
      subst this
      rw [hua]
      have w : nI (ps a).length ≤ nI j := nI_le (by omega) (by omega)
      (repeat (refine zS_one rfl ?_; simp (disch := (first | decide | assumption | omega)) only [i_push, i_null, i_ild, i_ald, i_ist, i_ast, i_inc, i_bin, i_div, i_un, i_dup, i_pop, i_dup2, i_if, i_icmp, i_nul, i_nnl, i_goto, i_getf, i_putf, i_gets, i_nald, i_nast, i_aald, i_aast, i_alen, i_new, i_newa, i_newq, i_math, i_oini, i_iret, i_zret, i_aret, i_vret, z_fit, List.getElem?_cons_zero, List.getElem?_cons_succ, List.set_cons_zero, List.set_cons_succ, Nat.reduceAdd, Nat.reduceLT, Nat.reduceLeDiff, Nat.reduceEqDiff, Nat.zero_lt_succ, Value.category, true_and, or_true, true_or, and_true, false_implies, true_implies, not_false_eq_true, not_true_eq_false, List.map_cons, List.map_nil, List.sum_cons, List.sum_nil, va_up_eq, bx_uu, va_up_lit, List.length_cons, List.length_nil, List.drop_succ_cons, List.drop_zero, Option.toList_some, Option.toList_none, List.cons_append, List.nil_append, w, e0]))
      (try refine zS_one rfl ?_)
      refine r_callV (c_finish sc (d + 2) hM hm6) rfl rfl rfl rfl hM.o (Nat.le_refl _) (Nat.le_refl _) ?_
      rintro r h1 ⟨rfl, hM1, hf1⟩
      (repeat (refine zS_one rfl ?_; simp (disch := (first | decide | assumption | omega)) only [i_push, i_null, i_ild, i_ald, i_ist, i_ast, i_inc, i_bin, i_div, i_un, i_dup, i_pop, i_dup2, i_if, i_icmp, i_nul, i_nnl, i_goto, i_getf, i_putf, i_gets, i_nald, i_nast, i_aald, i_aast, i_alen, i_new, i_newa, i_newq, i_math, i_oini, i_iret, i_zret, i_aret, i_vret, z_fit, List.getElem?_cons_zero, List.getElem?_cons_succ, List.set_cons_zero, List.set_cons_succ, Nat.reduceAdd, Nat.reduceLT, Nat.reduceLeDiff, Nat.reduceEqDiff, Nat.zero_lt_succ, Value.category, true_and, or_true, true_or, and_true, false_implies, true_implies, not_false_eq_true, not_true_eq_false, List.map_cons, List.map_nil, List.sum_cons, List.sum_nil, va_up_eq, bx_uu, va_up_lit, List.length_cons, List.length_nil, List.drop_succ_cons, List.drop_zero, Option.toList_some, Option.toList_none, List.cons_append, List.nil_append]))
      have htake : ((ps a).set b (den t)).take j = (ps a).set b (den t) := List.take_of_length_le (by rw [List.length_set]; omega)
      rw [htake] at hM1
      refine hP _ _ ⟨rfl, hC.tm (c := 0) exq.rf (hC.2.2.2.1.same' hf1 (by decide)) hM1 (hf1.up (by decide) (by decide)), (hf.M (by decide)).tr (hf1.M (by decide))⟩
    | succ c ih =>
      intro j h hj hC hf
      have e0 := hC.1
      have hM := hC.2.2.2.2.1
      have hua : va_up ps m (((ps a).set b (den t)).take j) a = ps a := va_up_lit _ _ _ _ (by omega)
      (repeat (refine zS_one rfl ?_; simp (disch := (first | decide | assumption | omega)) only [i_push, i_null, i_ild, i_ald, i_ist, i_ast, i_inc, i_bin, i_div, i_un, i_dup, i_pop, i_dup2, i_if, i_icmp, i_nul, i_nnl, i_goto, i_getf, i_putf, i_gets, i_nald, i_nast, i_aald, i_aast, i_alen, i_new, i_newa, i_newq, i_math, i_oini, i_iret, i_zret, i_aret, i_vret, z_fit, List.getElem?_cons_zero, List.getElem?_cons_succ, List.set_cons_zero, List.set_cons_succ, Nat.reduceAdd, Nat.reduceLT, Nat.reduceLeDiff, Nat.reduceEqDiff, Nat.zero_lt_succ, Value.category, true_and, or_true, true_or, and_true, false_implies, true_implies, not_false_eq_true, not_true_eq_false, List.map_cons, List.map_nil, List.sum_cons, List.sum_nil, va_up_eq, bx_uu, va_up_lit, List.length_cons, List.length_nil, List.drop_succ_cons, List.drop_zero, Option.toList_some, Option.toList_none, List.cons_append, List.nil_append, e0]))
      (try refine zS_one rfl ?_)
      refine r_callV (c_sizeOf sc (d + 1) hM (nI a)) rfl rfl rfl rfl hM.o (Nat.le_refl _) (Nat.le_refl _) ?_
      rintro r h' ⟨rfl, ⟨a', ha', g2, rfl, -⟩ | ⟨rfl, g⟩⟩
      rotate_left
      · exact absurd rfl (g a ha)
      have := nI_inj (by omega) (by omega) g2
      subst this
      rw [hua]
      have w : ¬ nI (ps a).length ≤ nI j := nI_ge (by omega) (by omega)
      -- u is the part that is added
      have add : ∀ u, 0 < u → u ≤ n → ((ps a).set b (den t))[j]? = some (den u) → i_callV 2 24 1 (zMt zTab sc (d + 3), (0, 0), sc) (40, [some (.ref 0), some (.int (nI a)), some (.int (nI b)), some (.int (nI t)), some (.int (nI j))], [.int (nI u), .ref 11], h', 0, 0) (zS (zMt zTab sc (d + 3), (0, 0), sc) k_St_makeChanged P) P := by
        intro u u1 u2 hu
        refine r_callV (c_addPart sc (d + 1) hM hm6 (by rw [va_up_eq, List.length_take]; omega) u1 u2) rfl rfl rfl rfl hM.o (Nat.le_refl _) (Nat.le_refl _) ?_
        rintro r h1 ⟨rfl, hM1, hf1⟩
        rw [va_up_eq, bx_uu] at hM1
        have htk : ((ps a).set b (den t)).take j ++ [den u] = ((ps a).set b (den t)).take (j + 1) := by
          rw [List.take_succ, hu]
          rfl
        rw [htk] at hM1
        (iterate 2 (refine zS_one rfl ?_; simp (disch := (first | decide | assumption | omega)) only [i_push, i_null, i_ild, i_ald, i_ist, i_ast, i_inc, i_bin, i_div, i_un, i_dup, i_pop, i_dup2, i_if, i_icmp, i_nul, i_nnl, i_goto, i_getf, i_putf, i_gets, i_nald, i_nast, i_aald, i_aast, i_alen, i_new, i_newa, i_newq, i_math, i_oini, i_iret, i_zret, i_aret, i_vret, z_fit, List.getElem?_cons_zero, List.getElem?_cons_succ, List.set_cons_zero, List.set_cons_succ, Nat.reduceAdd, Nat.reduceLT, Nat.reduceLeDiff, Nat.reduceEqDiff, Nat.zero_lt_succ, Value.category, true_and, or_true, true_or, and_true, false_implies, true_implies, not_false_eq_true, not_true_eq_false, List.map_cons, List.map_nil, List.sum_cons, List.sum_nil, va_up_eq, bx_uu, va_up_lit, List.length_cons, List.length_nil, List.drop_succ_cons, List.drop_zero, Option.toList_some, Option.toList_none, List.cons_append, List.nil_append, nI_1']))
        exact ih (j + 1) h1 (by omega) (hC.tm (c := 0) exq.rf (hC.2.2.2.1.same' hf1 (by decide)) hM1 (hf1.up (by decide) (by decide))) (hf.tr hf1)
      (repeat (refine zS_one rfl ?_; simp (disch := (first | decide | assumption | omega)) only [i_push, i_null, i_ild, i_ald, i_ist, i_ast, i_inc, i_bin, i_div, i_un, i_dup, i_pop, i_dup2, i_if, i_icmp, i_nul, i_nnl, i_goto, i_getf, i_putf, i_gets, i_nald, i_nast, i_aald, i_aast, i_alen, i_new, i_newa, i_newq, i_math, i_oini, i_iret, i_zret, i_aret, i_vret, z_fit, List.getElem?_cons_zero, List.getElem?_cons_succ, List.set_cons_zero, List.set_cons_succ, Nat.reduceAdd, Nat.reduceLT, Nat.reduceLeDiff, Nat.reduceEqDiff, Nat.zero_lt_succ, Value.category, true_and, or_true, true_or, and_true, false_implies, true_implies, not_false_eq_true, not_true_eq_false, List.map_cons, List.map_nil, List.sum_cons, List.sum_nil, va_up_eq, bx_uu, va_up_lit, List.length_cons, List.length_nil, List.drop_succ_cons, List.drop_zero, Option.toList_some, Option.toList_none, List.cons_append, List.nil_append, w, e0]))
      refine ⟨fun q => ?_, fun q => ?_⟩
      · have hjb : ¬ b = j := fun z => q (by rw [z])
        (repeat (refine zS_one rfl ?_; simp (disch := (first | decide | assumption | omega)) only [i_push, i_null, i_ild, i_ald, i_ist, i_ast, i_inc, i_bin, i_div, i_un, i_dup, i_pop, i_dup2, i_if, i_icmp, i_nul, i_nnl, i_goto, i_getf, i_putf, i_gets, i_nald, i_nast, i_aald, i_aast, i_alen, i_new, i_newa, i_newq, i_math, i_oini, i_iret, i_zret, i_aret, i_vret, z_fit, List.getElem?_cons_zero, List.getElem?_cons_succ, List.set_cons_zero, List.set_cons_succ, Nat.reduceAdd, Nat.reduceLT, Nat.reduceLeDiff, Nat.reduceEqDiff, Nat.zero_lt_succ, Value.category, true_and, or_true, true_or, and_true, false_implies, true_implies, not_false_eq_true, not_true_eq_false, List.map_cons, List.map_nil, List.sum_cons, List.sum_nil, va_up_eq, bx_uu, va_up_lit, List.length_cons, List.length_nil, List.drop_succ_cons, List.drop_zero, Option.toList_some, Option.toList_none, List.cons_append, List.nil_append, e0]))
        (try refine zS_one rfl ?_)
        refine r_callV (c_partAt sc d hM (nI a) (nI j)) rfl rfl rfl rfl hM.o (Nat.le_refl _) (Nat.le_refl _) ?_
        rintro r h' ⟨rfl, ⟨a', b', u, g1, g2, g3, g4, g5, g6, rfl⟩ | ⟨rfl, g⟩⟩
        rotate_left
        · exact absurd rfl (g a j ha rfl (by rw [hua]; omega))
        have := nI_inj (by omega) (by omega) g2
        subst this
        rw [hua] at g4
        have hb3 := (List.getElem?_eq_some_iff.mp g4).1
        have := nI_inj (by omega) (by omega) g3
        subst this
        (repeat (refine zS_one rfl ?_; simp (disch := (first | decide | assumption | omega)) only [i_push, i_null, i_ild, i_ald, i_ist, i_ast, i_inc, i_bin, i_div, i_un, i_dup, i_pop, i_dup2, i_if, i_icmp, i_nul, i_nnl, i_goto, i_getf, i_putf, i_gets, i_nald, i_nast, i_aald, i_aast, i_alen, i_new, i_newa, i_newq, i_math, i_oini, i_iret, i_zret, i_aret, i_vret, z_fit, List.getElem?_cons_zero, List.getElem?_cons_succ, List.set_cons_zero, List.set_cons_succ, Nat.reduceAdd, Nat.reduceLT, Nat.reduceLeDiff, Nat.reduceEqDiff, Nat.zero_lt_succ, Value.category, true_and, or_true, true_or, and_true, false_implies, true_implies, not_false_eq_true, not_true_eq_false, List.map_cons, List.map_nil, List.sum_cons, List.sum_nil, va_up_eq, bx_uu, va_up_lit, List.length_cons, List.length_nil, List.drop_succ_cons, List.drop_zero, Option.toList_some, Option.toList_none, List.cons_append, List.nil_append]))
        exact add u g5 g6 (by rw [List.getElem?_set_ne hjb]; exact g4)
      · have hjb : j = b := nI_inj (by omega) (by omega) q
        (repeat (refine zS_one rfl ?_; simp (disch := (first | decide | assumption | omega)) only [i_push, i_null, i_ild, i_ald, i_ist, i_ast, i_inc, i_bin, i_div, i_un, i_dup, i_pop, i_dup2, i_if, i_icmp, i_nul, i_nnl, i_goto, i_getf, i_putf, i_gets, i_nald, i_nast, i_aald, i_aast, i_alen, i_new, i_newa, i_newq, i_math, i_oini, i_iret, i_zret, i_aret, i_vret, z_fit, List.getElem?_cons_zero, List.getElem?_cons_succ, List.set_cons_zero, List.set_cons_succ, Nat.reduceAdd, Nat.reduceLT, Nat.reduceLeDiff, Nat.reduceEqDiff, Nat.zero_lt_succ, Value.category, true_and, or_true, true_or, and_true, false_implies, true_implies, not_false_eq_true, not_true_eq_false, List.map_cons, List.map_nil, List.sum_cons, List.sum_nil, va_up_eq, bx_uu, va_up_lit, List.length_cons, List.length_nil, List.drop_succ_cons, List.drop_zero, Option.toList_some, Option.toList_none, List.cons_append, List.nil_append]))
        exact add t ht htn (by rw [hjb, List.getElem?_set_self hb])
  (iterate 2 (refine zS_one rfl ?_; simp (disch := (first | decide | assumption | omega)) only [i_push, i_null, i_ild, i_ald, i_ist, i_ast, i_inc, i_bin, i_div, i_un, i_dup, i_pop, i_dup2, i_if, i_icmp, i_nul, i_nnl, i_goto, i_getf, i_putf, i_gets, i_nald, i_nast, i_aald, i_aast, i_alen, i_new, i_newa, i_newq, i_math, i_oini, i_iret, i_zret, i_aret, i_vret, z_fit, List.getElem?_cons_zero, List.getElem?_cons_succ, List.set_cons_zero, List.set_cons_succ, Nat.reduceAdd, Nat.reduceLT, Nat.reduceLeDiff, Nat.reduceEqDiff, Nat.zero_lt_succ, Value.category, true_and, or_true, true_or, and_true, false_implies, true_implies, not_false_eq_true, not_true_eq_false, List.map_cons, List.map_nil, List.sum_cons, List.sum_nil, va_up_eq, bx_uu, va_up_lit, List.length_cons, List.length_nil, List.drop_succ_cons, List.drop_zero, Option.toList_some, Option.toList_none, List.cons_append, List.nil_append, nI_1']))
  exact loop (ps a).length 0 h0 (by omega) (by rw [List.take_zero, up_nil hps]; exact hC) fr.rf
end ST4
