section CH3
variable {h0 : zH} {c n k m : Nat} {den : Nat → zT} {G : Nat → Int32} {ps : Nat → List zT} {I : Nat → Int32} {Θ : Nat → zT} {K : Nat → Int32}
/-- behind a look: at most NUM 0 is new -/
def ex0 (n : Nat) (den : Nat → zT) (n' : Nat) (den' : Nat → zT) : Prop := exq n den n' den' 1 ∧ (n' = n ∨ ((∀ t, 0 < t → t ≤ n → den t ≠ tN 0) ∧ ∃ t, 0 < t ∧ t ≤ n' ∧ den' t = tN 0))
theorem max_i (x y : Int32) : (if x < y then y else x) = (if x < y then y else x) := rfl
set_option maxHeartbeats 4000000 in
theorem c_acceptNext (sc : Nat × (Nat → Int32)) (d : Nat) (hc : 44 ≤ c) (hT : tOK h0 n k den G) (hM : mOK h0 n den m ps) (hn : n + 1 < 720) {sk rk mi : Nat} (hmi : mi < m) (e : h0.1 c = .inr (1, cF c sk rk I)) (hr : 0 < rk ∧ rk ≤ n ∧ den rk = rkT I Θ) (eK : h0.1 (c + 1) = .inl (1, 60, .inl K)) : zMt zTab sc (d + 4) 17 [.ref c, .ref 11, .int (nI mi)] h0 0 0 (fun r h' => (∃ v Z u n' den', accC (ps mi) I Θ K v Z ∧ r = some (.int (nI u)) ∧ 0 < u ∧ u ≤ n' ∧ den' u = Z ∧ ex0 n den n' den' ∧ tOK h' n' k den' G ∧ mOK h' n' den' m ps ∧ h'.1 c = .inr (1, cF c sk rk (va_up I 13 (if I 13 < v then v else I 13))) ∧ h'.1 (c + 1) = .inl (1, 60, .inl (upd K v.toNatClampNeg 1)) ∧ frC c h0 h') ∨ (r = some (.int 0) ∧ (∀ v Z, ¬ accC (ps mi) I Θ K v Z) ∧ ∃ n' den', ex0 n den n' den' ∧ tOK h' n' k den' G ∧ mOK h' n' den' m ps ∧ fr 1 10 h0 h')) := by
  have e0 := e
  unfold cF at e
  have q10 : ¬ (1 : Int32) = 0 := by decide
  have hm6 := hM.m
  refine zM_gen fun P hP => ?_
  refine zM_start (r := r_Ch_acceptNext) (cd := k_Ch_acceptNext) (L0 := [some (.ref c), some (.ref 11), some (.int (nI mi)), none, none, none]) rfl rfl rfl rfl rfl ?_
  have fail0 : ∀ h' n' den', (∀ v Z, ¬ accC (ps mi) I Θ K v Z) → ex0 n den n' den' → tOK h' n' k den' G → mOK h' n' den' m ps → fr 1 10 h0 h' → P (some (.int 0)) h' := fun h' n' den' g1 g2 g3 g4 g5 => hP _ _ (Or.inr ⟨rfl, g1, n', den', g2, g3, g4, g5⟩)
  have ex00 : ex0 n den n den := ⟨exq.rf, Or.inl rfl⟩
  (repeat (refine zS_one rfl ?_; simp (disch := (first | decide | assumption | omega)) only [i_push, i_null, i_ild, i_ald, i_ist, i_ast, i_inc, i_bin, i_div, i_un, i_dup, i_pop, i_dup2, i_if, i_icmp, i_nul, i_nnl, i_goto, i_getf, i_putf, i_gets, i_nald, i_nast, i_aald, i_aast, i_alen, i_new, i_newa, i_newq, i_math, i_oini, i_iret, i_zret, i_aret, i_vret, z_fit, List.getElem?_cons_zero, List.getElem?_cons_succ, List.set_cons_zero, List.set_cons_succ, Nat.reduceAdd, Nat.reduceLT, Nat.reduceLeDiff, Nat.reduceEqDiff, Nat.zero_lt_succ, Value.category, true_and, or_true, true_or, and_true, false_implies, true_implies, not_false_eq_true, not_true_eq_false, List.map_cons, List.map_nil, List.sum_cons, List.sum_nil, va_up_eq, bx_uu, va_up_lit, List.length_cons, List.length_nil, List.drop_succ_cons, List.drop_zero, Option.toList_some, Option.toList_none, List.cons_append, List.nil_append]))
  (try refine zS_one rfl ?_)
  refine r_callV (c_partAt sc d hM (nI mi) 0) rfl rfl rfl rfl hM.o (Nat.le_refl _) (Nat.le_refl _) ?_
  rintro r h' ⟨rfl, hp0⟩
  -- the first part: a term, or nothing
  obtain ⟨t0, ht0n, rfl, h0yes, h0no⟩ : ∃ t0, t0 ≤ n ∧ r = some (.int (nI t0)) ∧ (0 < t0 → (ps mi)[0]? = some (den t0)) ∧ (t0 = 0 → (ps mi)[0]? = none) := by
    rcases hp0 with ⟨a', b', t, g1, g2, g3, g4, g5, g6, rfl⟩ | ⟨rfl, g⟩
    · have ea := nI_inj (by omega) (by omega) g2
      subst ea
      have hb3 : b' < 2 ^ 31 := by
        have := (List.getElem?_eq_some_iff.mp g4).1
        obtain ⟨Sz, Rw, -, -, hR, -⟩ := hM
        have := (hR mi (by omega)).1
        omega
      have eb : 0 = b' := nI_inj (a := 0) (by decide) hb3 g3
      subst eb
      exact ⟨t, g6, rfl, fun _ => g4, fun z => by omega⟩
    · refine ⟨0, Nat.zero_le _, rfl, fun z => by omega, fun _ => ?_⟩
      by_cases hl : 0 < (ps mi).length
      · exact absurd rfl (g mi 0 hmi rfl hl)
      · exact List.getElem?_eq_none (by omega)
  (repeat (refine zS_one rfl ?_; simp (disch := (first | decide | assumption | omega)) only [i_push, i_null, i_ild, i_ald, i_ist, i_ast, i_inc, i_bin, i_div, i_un, i_dup, i_pop, i_dup2, i_if, i_icmp, i_nul, i_nnl, i_goto, i_getf, i_putf, i_gets, i_nald, i_nast, i_aald, i_aast, i_alen, i_new, i_newa, i_newq, i_math, i_oini, i_iret, i_zret, i_aret, i_vret, z_fit, List.getElem?_cons_zero, List.getElem?_cons_succ, List.set_cons_zero, List.set_cons_succ, Nat.reduceAdd, Nat.reduceLT, Nat.reduceLeDiff, Nat.reduceEqDiff, Nat.zero_lt_succ, Value.category, true_and, or_true, true_or, and_true, false_implies, true_implies, not_false_eq_true, not_true_eq_false, List.map_cons, List.map_nil, List.sum_cons, List.sum_nil, va_up_eq, bx_uu, va_up_lit, List.length_cons, List.length_nil, List.drop_succ_cons, List.drop_zero, Option.toList_some, Option.toList_none, List.cons_append, List.nil_append]))
  (try refine zS_one rfl ?_)
  refine r_callV (c_partAt sc d hM (nI mi) 1) rfl rfl rfl rfl hM.o (Nat.le_refl _) (Nat.le_refl _) ?_
  rintro r h' ⟨rfl, hp1⟩
  obtain ⟨t1, ht1n, rfl, h1yes, h1no⟩ : ∃ t1, t1 ≤ n ∧ r = some (.int (nI t1)) ∧ (0 < t1 → (ps mi)[1]? = some (den t1)) ∧ (t1 = 0 → (ps mi)[1]? = none) := by
    rcases hp1 with ⟨a', b', t, g1, g2, g3, g4, g5, g6, rfl⟩ | ⟨rfl, g⟩
    · have ea := nI_inj (by omega) (by omega) g2
      subst ea
      have hb3 : b' < 2 ^ 31 := by
        have := (List.getElem?_eq_some_iff.mp g4).1
        obtain ⟨Sz, Rw, -, -, hR, -⟩ := hM
        have := (hR mi (by omega)).1
        omega
      have eb : 1 = b' := nI_inj (a := 1) (by decide) hb3 g3
      subst eb
      exact ⟨t, g6, rfl, fun _ => g4, fun z => by omega⟩
    · refine ⟨0, Nat.zero_le _, rfl, fun z => by omega, fun _ => ?_⟩
      by_cases hl : 1 < (ps mi).length
      · exact absurd rfl (g mi 1 hmi rfl hl)
      · exact List.getElem?_eq_none (by omega)
  (repeat (refine zS_one rfl ?_; simp (disch := (first | decide | assumption | omega)) only [i_push, i_null, i_ild, i_ald, i_ist, i_ast, i_inc, i_bin, i_div, i_un, i_dup, i_pop, i_dup2, i_if, i_icmp, i_nul, i_nnl, i_goto, i_getf, i_putf, i_gets, i_nald, i_nast, i_aald, i_aast, i_alen, i_new, i_newa, i_newq, i_math, i_oini, i_iret, i_zret, i_aret, i_vret, z_fit, List.getElem?_cons_zero, List.getElem?_cons_succ, List.set_cons_zero, List.set_cons_succ, Nat.reduceAdd, Nat.reduceLT, Nat.reduceLeDiff, Nat.reduceEqDiff, Nat.zero_lt_succ, Value.category, true_and, or_true, true_or, and_true, false_implies, true_implies, not_false_eq_true, not_true_eq_false, List.map_cons, List.map_nil, List.sum_cons, List.sum_nil, va_up_eq, bx_uu, va_up_lit, List.length_cons, List.length_nil, List.drop_succ_cons, List.drop_zero, Option.toList_some, Option.toList_none, List.cons_append, List.nil_append]))
  (try refine zS_one rfl ?_)
  refine r_callV (c_sizeOf sc (d + 1) hM (nI mi)) rfl rfl rfl rfl hM.o (Nat.le_refl _) (Nat.le_refl _) ?_
  rintro r h' ⟨rfl, ⟨a', ha', g2, rfl, hl3⟩ | ⟨rfl, g⟩⟩
  rotate_left
  · exact absurd rfl (g mi hmi)
  have ea := nI_inj (by omega) (by omega) g2
  subst ea
  (repeat (refine zS_one rfl ?_; simp (disch := (first | decide | assumption | omega)) only [i_push, i_null, i_ild, i_ald, i_ist, i_ast, i_inc, i_bin, i_div, i_un, i_dup, i_pop, i_dup2, i_if, i_icmp, i_nul, i_nnl, i_goto, i_getf, i_putf, i_gets, i_nald, i_nast, i_aald, i_aast, i_alen, i_new, i_newa, i_newq, i_math, i_oini, i_iret, i_zret, i_aret, i_vret, z_fit, List.getElem?_cons_zero, List.getElem?_cons_succ, List.set_cons_zero, List.set_cons_succ, Nat.reduceAdd, Nat.reduceLT, Nat.reduceLeDiff, Nat.reduceEqDiff, Nat.zero_lt_succ, Value.category, true_and, or_true, true_or, and_true, false_implies, true_implies, not_false_eq_true, not_true_eq_false, List.map_cons, List.map_nil, List.sum_cons, List.sum_nil, va_up_eq, bx_uu, va_up_lit, List.length_cons, List.length_nil, List.drop_succ_cons, List.drop_zero, Option.toList_some, Option.toList_none, List.cons_append, List.nil_append]))
  by_cases hlen : (ps mi).length = 2
  rotate_left
  · have w : ¬ nI (ps mi).length = 2 := fun z => hlen (nI_inj (b := 2) (by omega) (by decide) z)
    refine ⟨fun _ => ?_, fun z => absurd z w⟩
    (repeat (refine zS_one rfl ?_; simp (disch := (first | decide | assumption | omega)) only [i_push, i_null, i_ild, i_ald, i_ist, i_ast, i_inc, i_bin, i_div, i_un, i_dup, i_pop, i_dup2, i_if, i_icmp, i_nul, i_nnl, i_goto, i_getf, i_putf, i_gets, i_nald, i_nast, i_aald, i_aast, i_alen, i_new, i_newa, i_newq, i_math, i_oini, i_iret, i_zret, i_aret, i_vret, z_fit, List.getElem?_cons_zero, List.getElem?_cons_succ, List.set_cons_zero, List.set_cons_succ, Nat.reduceAdd, Nat.reduceLT, Nat.reduceLeDiff, Nat.reduceEqDiff, Nat.zero_lt_succ, Value.category, true_and, or_true, true_or, and_true, false_implies, true_implies, not_false_eq_true, not_true_eq_false, List.map_cons, List.map_nil, List.sum_cons, List.sum_nil, va_up_eq, bx_uu, va_up_lit, List.length_cons, List.length_nil, List.drop_succ_cons, List.drop_zero, Option.toList_some, Option.toList_none, List.cons_append, List.nil_append]))
    exact fail0 _ n den (fun v Z hz => hlen hz.1) ex00 hT hM fr.rf
  refine ⟨fun z => absurd (by rw [hlen]; rfl) z, fun _ => ?_⟩
  have ht0 : 0 < t0 := by
    by_cases hz : t0 = 0
    · have := h0no hz
      rw [List.getElem?_eq_none_iff] at this
      omega
    · omega
  have ht1 : 0 < t1 := by
    by_cases hz : t1 = 0
    · have := h1no hz
      rw [List.getElem?_eq_none_iff] at this
      omega
    · omega
  have hl0 := h0yes ht0
  have hl1 := h1yes ht1
  have hacc : ∀ v Z, accC (ps mi) I Θ K v Z ↔ (tkd (den t0) = 1 ∧ tv (den t0) = v ∧ frs I K v ∧ den t1 = nd 8 v.toInt 0 (rkT I Θ) (tN 0) Z ∧ tkd Z = 1) := by
    intro v Z
    constructor
    · rintro ⟨-, τ0, τ1, g1, g2, g3, g4, g5, g6, g7, g8, g9, g10⟩
      cases hl0.symm.trans g1
      cases hl1.symm.trans g2
      exact ⟨g3, g4, ⟨g5, g6, g7, g8⟩, g9, g10⟩
    · rintro ⟨g3, g4, ⟨g5, g6, g7, g8⟩, g9, g10⟩
      exact ⟨hlen, _, _, hl0, hl1, g3, g4, g5, g6, g7, g8, g9, g10⟩
  (repeat (refine zS_one rfl ?_; simp (disch := (first | decide | assumption | omega)) only [i_push, i_null, i_ild, i_ald, i_ist, i_ast, i_inc, i_bin, i_div, i_un, i_dup, i_pop, i_dup2, i_if, i_icmp, i_nul, i_nnl, i_goto, i_getf, i_putf, i_gets, i_nald, i_nast, i_aald, i_aast, i_alen, i_new, i_newa, i_newq, i_math, i_oini, i_iret, i_zret, i_aret, i_vret, z_fit, List.getElem?_cons_zero, List.getElem?_cons_succ, List.set_cons_zero, List.set_cons_succ, Nat.reduceAdd, Nat.reduceLT, Nat.reduceLeDiff, Nat.reduceEqDiff, Nat.zero_lt_succ, Value.category, true_and, or_true, true_or, and_true, false_implies, true_implies, not_false_eq_true, not_true_eq_false, List.map_cons, List.map_nil, List.sum_cons, List.sum_nil, va_up_eq, bx_uu, va_up_lit, List.length_cons, List.length_nil, List.drop_succ_cons, List.drop_zero, Option.toList_some, Option.toList_none, List.cons_append, List.nil_append, e]))
  (try refine zS_one rfl ?_)
  refine r_callV (c_isNum sc (d + 2) hT ht0n) rfl rfl rfl rfl hT.o (Nat.le_refl _) (Nat.le_refl _) ?_
  rintro r h' ⟨rfl, ⟨rfl, -, hk0⟩ | ⟨rfl, hk0⟩⟩
  rotate_left
  · (repeat (refine zS_one rfl ?_; simp (disch := (first | decide | assumption | omega)) only [i_push, i_null, i_ild, i_ald, i_ist, i_ast, i_inc, i_bin, i_div, i_un, i_dup, i_pop, i_dup2, i_if, i_icmp, i_nul, i_nnl, i_goto, i_getf, i_putf, i_gets, i_nald, i_nast, i_aald, i_aast, i_alen, i_new, i_newa, i_newq, i_math, i_oini, i_iret, i_zret, i_aret, i_vret, z_fit, List.getElem?_cons_zero, List.getElem?_cons_succ, List.set_cons_zero, List.set_cons_succ, Nat.reduceAdd, Nat.reduceLT, Nat.reduceLeDiff, Nat.reduceEqDiff, Nat.zero_lt_succ, Value.category, true_and, or_true, true_or, and_true, false_implies, true_implies, not_false_eq_true, not_true_eq_false, List.map_cons, List.map_nil, List.sum_cons, List.sum_nil, va_up_eq, bx_uu, va_up_lit, List.length_cons, List.length_nil, List.drop_succ_cons, List.drop_zero, Option.toList_some, Option.toList_none, List.cons_append, List.nil_append]))
    exact fail0 _ n den (fun v Z hz => hk0.resolve_left (by omega) ((hacc v Z).mp hz).1) ex00 hT hM fr.rf
  (repeat (refine zS_one rfl ?_; simp (disch := (first | decide | assumption | omega)) only [i_push, i_null, i_ild, i_ald, i_ist, i_ast, i_inc, i_bin, i_div, i_un, i_dup, i_pop, i_dup2, i_if, i_icmp, i_nul, i_nnl, i_goto, i_getf, i_putf, i_gets, i_nald, i_nast, i_aald, i_aast, i_alen, i_new, i_newa, i_newq, i_math, i_oini, i_iret, i_zret, i_aret, i_vret, z_fit, List.getElem?_cons_zero, List.getElem?_cons_succ, List.set_cons_zero, List.set_cons_succ, Nat.reduceAdd, Nat.reduceLT, Nat.reduceLeDiff, Nat.reduceEqDiff, Nat.zero_lt_succ, Value.category, true_and, or_true, true_or, and_true, false_implies, true_implies, not_false_eq_true, not_true_eq_false, List.map_cons, List.map_nil, List.sum_cons, List.sum_nil, va_up_eq, bx_uu, va_up_lit, List.length_cons, List.length_nil, List.drop_succ_cons, List.drop_zero, Option.toList_some, Option.toList_none, List.cons_append, List.nil_append, e, q10]))
  (try refine zS_one rfl ?_)
  refine r_callV (c_valueOf sc (d + 2) hT ht0 ht0n (Or.inl hk0)) rfl rfl rfl rfl hT.o (Nat.le_refl _) (Nat.le_refl _) ?_
  rintro r h' ⟨rfl, rfl⟩
  (repeat (refine zS_one rfl ?_; simp (disch := (first | decide | assumption | omega)) only [i_push, i_null, i_ild, i_ald, i_ist, i_ast, i_inc, i_bin, i_div, i_un, i_dup, i_pop, i_dup2, i_if, i_icmp, i_nul, i_nnl, i_goto, i_getf, i_putf, i_gets, i_nald, i_nast, i_aald, i_aast, i_alen, i_new, i_newa, i_newq, i_math, i_oini, i_iret, i_zret, i_aret, i_vret, z_fit, List.getElem?_cons_zero, List.getElem?_cons_succ, List.set_cons_zero, List.set_cons_succ, Nat.reduceAdd, Nat.reduceLT, Nat.reduceLeDiff, Nat.reduceEqDiff, Nat.zero_lt_succ, Value.category, true_and, or_true, true_or, and_true, false_implies, true_implies, not_false_eq_true, not_true_eq_false, List.map_cons, List.map_nil, List.sum_cons, List.sum_nil, va_up_eq, bx_uu, va_up_lit, List.length_cons, List.length_nil, List.drop_succ_cons, List.drop_zero, Option.toList_some, Option.toList_none, List.cons_append, List.nil_append]))
  (try refine zS_one rfl ?_)
  refine r_callV (c_isFresh sc (d + 2) e0 eK (tv (den t0))) rfl rfl rfl rfl e (Nat.le_refl _) (Nat.le_refl _) ?_
  rintro r h' ⟨rfl, ⟨rfl, hfs⟩ | ⟨rfl, hfs⟩⟩
  rotate_left
  · (repeat (refine zS_one rfl ?_; simp (disch := (first | decide | assumption | omega)) only [i_push, i_null, i_ild, i_ald, i_ist, i_ast, i_inc, i_bin, i_div, i_un, i_dup, i_pop, i_dup2, i_if, i_icmp, i_nul, i_nnl, i_goto, i_getf, i_putf, i_gets, i_nald, i_nast, i_aald, i_aast, i_alen, i_new, i_newa, i_newq, i_math, i_oini, i_iret, i_zret, i_aret, i_vret, z_fit, List.getElem?_cons_zero, List.getElem?_cons_succ, List.set_cons_zero, List.set_cons_succ, Nat.reduceAdd, Nat.reduceLT, Nat.reduceLeDiff, Nat.reduceEqDiff, Nat.zero_lt_succ, Value.category, true_and, or_true, true_or, and_true, false_implies, true_implies, not_false_eq_true, not_true_eq_false, List.map_cons, List.map_nil, List.sum_cons, List.sum_nil, va_up_eq, bx_uu, va_up_lit, List.length_cons, List.length_nil, List.drop_succ_cons, List.drop_zero, Option.toList_some, Option.toList_none, List.cons_append, List.nil_append]))
    exact fail0 _ n den (fun v Z hz => hfs (by have := (hacc v Z).mp hz; rw [this.2.1]; exact this.2.2.1)) ex00 hT hM fr.rf
  (repeat (refine zS_one rfl ?_; simp (disch := (first | decide | assumption | omega)) only [i_push, i_null, i_ild, i_ald, i_ist, i_ast, i_inc, i_bin, i_div, i_un, i_dup, i_pop, i_dup2, i_if, i_icmp, i_nul, i_nnl, i_goto, i_getf, i_putf, i_gets, i_nald, i_nast, i_aald, i_aast, i_alen, i_new, i_newa, i_newq, i_math, i_oini, i_iret, i_zret, i_aret, i_vret, z_fit, List.getElem?_cons_zero, List.getElem?_cons_succ, List.set_cons_zero, List.set_cons_succ, Nat.reduceAdd, Nat.reduceLT, Nat.reduceLeDiff, Nat.reduceEqDiff, Nat.zero_lt_succ, Value.category, true_and, or_true, true_or, and_true, false_implies, true_implies, not_false_eq_true, not_true_eq_false, List.map_cons, List.map_nil, List.sum_cons, List.sum_nil, va_up_eq, bx_uu, va_up_lit, List.length_cons, List.length_nil, List.drop_succ_cons, List.drop_zero, Option.toList_some, Option.toList_none, List.cons_append, List.nil_append, e, q10]))
  (try refine zS_one rfl ?_)
  refine r_callV (c_num1 sc d hT (by omega) 0) rfl rfl rfl rfl hT.o (Nat.le_refl _) (Nat.le_refl _) ?_
  rintro r h1 ⟨⟨u, n1, den1, rfl, u1, u2, u3, hT1', g1, g2, g3, hf1⟩, hsame⟩
  -- the table behind NUM 0
  obtain ⟨n2, den2, hx2, hT2, u5, u6, u7⟩ : ∃ n2 den2, ex0 n den n2 den2 ∧ tOK h1 n2 k den2 G ∧ 0 < u ∧ u ≤ n2 ∧ den2 u = tN 0 := by
    by_cases hz : ∃ t0, 0 < t0 ∧ t0 ≤ n ∧ den t0 = nd 1 (0 : Int32).toInt 0 [] [] []
    · have hTn := hsame hz
      have hnn : n1 = n := by
        have o1 := hT1'.o
        have o2 := hTn.o
        have o3 := o1.symm.trans o2
        injection o3 with o3
        injection o3 with _ o3
        simp only [List.cons.injEq, Value.int.injEq, true_and, and_true] at o3
        obtain ⟨T, -, hI1, -⟩ := hT1'
        obtain ⟨T', -, hI2, -⟩ := hTn
        have := hI1.1
        have := hI2.1
        exact nI_inj (by omega) (by omega) o3
      subst hnn
      exact ⟨n1, den, ⟨exq.rf, Or.inl rfl⟩, hTn, u1, u2, by rw [← g3 u u1 u2]; exact u3⟩
    · exact ⟨n1, den1, ⟨⟨g1, g2, g3⟩, Or.inr ⟨fun t z1 z2 z3 => hz ⟨t, z1, z2, z3⟩, u, u1, u2, u3⟩⟩, hT1', u1, u2, u3⟩
  have hd2 := hx2.1.2.2
  have hn2 := hx2.1.1
  have hM2 : mOK h1 n2 den2 m ps := hM.fr (hi := 10) hn2 hd2 hf1 (by omega)
  have e1 : h1.1 c = _ := (hf1.1 c (by omega)).trans e
  have eK1 : h1.1 (c + 1) = _ := (hf1.1 (c + 1) (by omega)).trans eK
  (repeat (refine zS_one rfl ?_; simp (disch := (first | decide | assumption | omega)) only [i_push, i_null, i_ild, i_ald, i_ist, i_ast, i_inc, i_bin, i_div, i_un, i_dup, i_pop, i_dup2, i_if, i_icmp, i_nul, i_nnl, i_goto, i_getf, i_putf, i_gets, i_nald, i_nast, i_aald, i_aast, i_alen, i_new, i_newa, i_newq, i_math, i_oini, i_iret, i_zret, i_aret, i_vret, z_fit, List.getElem?_cons_zero, List.getElem?_cons_succ, List.set_cons_zero, List.set_cons_succ, Nat.reduceAdd, Nat.reduceLT, Nat.reduceLeDiff, Nat.reduceEqDiff, Nat.zero_lt_succ, Value.category, true_and, or_true, true_or, and_true, false_implies, true_implies, not_false_eq_true, not_true_eq_false, List.map_cons, List.map_nil, List.sum_cons, List.sum_nil, va_up_eq, bx_uu, va_up_lit, List.length_cons, List.length_nil, List.drop_succ_cons, List.drop_zero, Option.toList_some, Option.toList_none, List.cons_append, List.nil_append]))
  (try refine zS_one rfl ?_)
  refine r_callV (c_isSealOf sc (d + 1) hT2 (c := tv (den t0)) (Nat.le_trans ht1n hn2) hr.1 (Nat.le_trans hr.2.1 hn2) u5 u6) rfl rfl rfl rfl hT2.o (Nat.le_refl _) (Nat.le_refl _) ?_
  rw [hd2 t1 ht1 ht1n, hd2 rk hr.1 hr.2.1, hr.2.2, u7]
  rintro r h' ⟨rfl, ⟨rfl, -, Z, hs⟩ | ⟨rfl, hno⟩⟩
  rotate_left
  · (repeat (refine zS_one rfl ?_; simp (disch := (first | decide | assumption | omega)) only [i_push, i_null, i_ild, i_ald, i_ist, i_ast, i_inc, i_bin, i_div, i_un, i_dup, i_pop, i_dup2, i_if, i_icmp, i_nul, i_nnl, i_goto, i_getf, i_putf, i_gets, i_nald, i_nast, i_aald, i_aast, i_alen, i_new, i_newa, i_newq, i_math, i_oini, i_iret, i_zret, i_aret, i_vret, z_fit, List.getElem?_cons_zero, List.getElem?_cons_succ, List.set_cons_zero, List.set_cons_succ, Nat.reduceAdd, Nat.reduceLT, Nat.reduceLeDiff, Nat.reduceEqDiff, Nat.zero_lt_succ, Value.category, true_and, or_true, true_or, and_true, false_implies, true_implies, not_false_eq_true, not_true_eq_false, List.map_cons, List.map_nil, List.sum_cons, List.sum_nil, va_up_eq, bx_uu, va_up_lit, List.length_cons, List.length_nil, List.drop_succ_cons, List.drop_zero, Option.toList_some, Option.toList_none, List.cons_append, List.nil_append]))
    refine fail0 _ n2 den2 (fun v Z hz => ?_) hx2 hT2 hM2 hf1
    have h9 := (hacc v Z).mp hz
    rw [← h9.2.1] at h9
    exact hno.resolve_left (by omega) Z h9.2.2.2.1
  (repeat (refine zS_one rfl ?_; simp (disch := (first | decide | assumption | omega)) only [i_push, i_null, i_ild, i_ald, i_ist, i_ast, i_inc, i_bin, i_div, i_un, i_dup, i_pop, i_dup2, i_if, i_icmp, i_nul, i_nnl, i_goto, i_getf, i_putf, i_gets, i_nald, i_nast, i_aald, i_aast, i_alen, i_new, i_newa, i_newq, i_math, i_oini, i_iret, i_zret, i_aret, i_vret, z_fit, List.getElem?_cons_zero, List.getElem?_cons_succ, List.set_cons_zero, List.set_cons_succ, Nat.reduceAdd, Nat.reduceLT, Nat.reduceLeDiff, Nat.reduceEqDiff, Nat.zero_lt_succ, Value.category, true_and, or_true, true_or, and_true, false_implies, true_implies, not_false_eq_true, not_true_eq_false, List.map_cons, List.map_nil, List.sum_cons, List.sum_nil, va_up_eq, bx_uu, va_up_lit, List.length_cons, List.length_nil, List.drop_succ_cons, List.drop_zero, Option.toList_some, Option.toList_none, List.cons_append, List.nil_append, e1, q10]))
  (try refine zS_one rfl ?_)
  refine r_callV (c_insideOf sc (d + 2) hT2 ht1 (Nat.le_trans ht1n hn2) (by rw [hd2 t1 ht1 ht1n]; exact hs)) rfl rfl rfl rfl hT2.o (Nat.le_refl _) (Nat.le_refl _) ?_
  rintro r h' ⟨rfl, z, rfl, z1, z2, z3⟩
  (repeat (refine zS_one rfl ?_; simp (disch := (first | decide | assumption | omega)) only [i_push, i_null, i_ild, i_ald, i_ist, i_ast, i_inc, i_bin, i_div, i_un, i_dup, i_pop, i_dup2, i_if, i_icmp, i_nul, i_nnl, i_goto, i_getf, i_putf, i_gets, i_nald, i_nast, i_aald, i_aast, i_alen, i_new, i_newa, i_newq, i_math, i_oini, i_iret, i_zret, i_aret, i_vret, z_fit, List.getElem?_cons_zero, List.getElem?_cons_succ, List.set_cons_zero, List.set_cons_succ, Nat.reduceAdd, Nat.reduceLT, Nat.reduceLeDiff, Nat.reduceEqDiff, Nat.zero_lt_succ, Value.category, true_and, or_true, true_or, and_true, false_implies, true_implies, not_false_eq_true, not_true_eq_false, List.map_cons, List.map_nil, List.sum_cons, List.sum_nil, va_up_eq, bx_uu, va_up_lit, List.length_cons, List.length_nil, List.drop_succ_cons, List.drop_zero, Option.toList_some, Option.toList_none, List.cons_append, List.nil_append]))
  (try refine zS_one rfl ?_)
  refine r_callV (c_isNum sc (d + 2) hT2 z2) rfl rfl rfl rfl hT2.o (Nat.le_refl _) (Nat.le_refl _) ?_
  unfold isKP
  rw [z3]
  rintro r h' ⟨rfl, ⟨rfl, -, hkz⟩ | ⟨rfl, hkz⟩⟩
  rotate_left
  · (repeat (refine zS_one rfl ?_; simp (disch := (first | decide | assumption | omega)) only [i_push, i_null, i_ild, i_ald, i_ist, i_ast, i_inc, i_bin, i_div, i_un, i_dup, i_pop, i_dup2, i_if, i_icmp, i_nul, i_nnl, i_goto, i_getf, i_putf, i_gets, i_nald, i_nast, i_aald, i_aast, i_alen, i_new, i_newa, i_newq, i_math, i_oini, i_iret, i_zret, i_aret, i_vret, z_fit, List.getElem?_cons_zero, List.getElem?_cons_succ, List.set_cons_zero, List.set_cons_succ, Nat.reduceAdd, Nat.reduceLT, Nat.reduceLeDiff, Nat.reduceEqDiff, Nat.zero_lt_succ, Value.category, true_and, or_true, true_or, and_true, false_implies, true_implies, not_false_eq_true, not_true_eq_false, List.map_cons, List.map_nil, List.sum_cons, List.sum_nil, va_up_eq, bx_uu, va_up_lit, List.length_cons, List.length_nil, List.drop_succ_cons, List.drop_zero, Option.toList_some, Option.toList_none, List.cons_append, List.nil_append]))
    refine fail0 _ n2 den2 (fun v Z' hz => ?_) hx2 hT2 hM2 hf1
    have h9 := (hacc v Z').mp hz
    rw [← h9.2.1] at h9
    have := (nd_inj (hs.symm.trans h9.2.2.2.1)).2.2.2.2.2
    rw [← this] at h9
    exact hkz.resolve_left (by omega) h9.2.2.2.2
  obtain ⟨j, hj, hjv⟩ := in60 hfs.1 hfs.2.1
  have v1 : vp_in (tv (den t0)) 60 := by rw [hjv]; exact vp_in_nI hj (by decide)
  have q11 : (1 : Int32) &&& 1 = 1 := by decide
  (repeat (refine zS_one rfl ?_; simp (disch := (first | decide | assumption | omega)) only [i_push, i_null, i_ild, i_ald, i_ist, i_ast, i_inc, i_bin, i_div, i_un, i_dup, i_pop, i_dup2, i_if, i_icmp, i_nul, i_nnl, i_goto, i_getf, i_putf, i_gets, i_nald, i_nast, i_aald, i_aast, i_alen, i_new, i_newa, i_newq, i_math, i_oini, i_iret, i_zret, i_aret, i_vret, z_fit, List.getElem?_cons_zero, List.getElem?_cons_succ, List.set_cons_zero, List.set_cons_succ, Nat.reduceAdd, Nat.reduceLT, Nat.reduceLeDiff, Nat.reduceEqDiff, Nat.zero_lt_succ, Value.category, true_and, or_true, true_or, and_true, false_implies, true_implies, not_false_eq_true, not_true_eq_false, List.map_cons, List.map_nil, List.sum_cons, List.sum_nil, va_up_eq, bx_uu, va_up_lit, List.length_cons, List.length_nil, List.drop_succ_cons, List.drop_zero, Option.toList_some, Option.toList_none, List.cons_append, List.nil_append, e1, eK1, q10, v1, q11]))
  (try refine zS_one rfl ?_)
  have hT3 : tOK (va_up (va_up h'.1 (c + 1) (.inl (1, 60, .inl (upd K (tv (den t0)).toNatClampNeg 1)))) c (.inr (1, cF c sk rk (va_up I 13 (if I 13 < tv (den t0) then tv (den t0) else I 13)))), h'.2) n2 k den2 G := hT2.same (fun q hq => by
    show va_up _ _ _ q = _
    rw [va_up_lit _ _ _ _ (by omega), va_up_lit _ _ _ _ (by omega)])
  refine r_callV (c_insideOf sc (d + 2) (h0 := (va_up (va_up h'.1 (c + 1) (.inl (1, 60, .inl (upd K (tv (den t0)).toNatClampNeg 1)))) c (.inr (1, cF c sk rk (va_up I 13 (if I 13 < tv (den t0) then tv (den t0) else I 13)))), h'.2)) hT3 ht1 (Nat.le_trans ht1n hn2) (by rw [hd2 t1 ht1 ht1n]; exact hs)) rfl rfl rfl rfl hT3.o (Nat.le_refl _) (Nat.le_refl _) ?_
  rintro r h9 ⟨rfl, y, rfl, y1, y2, y3⟩
  (repeat (refine zS_one rfl ?_; simp (disch := (first | decide | assumption | omega)) only [i_push, i_null, i_ild, i_ald, i_ist, i_ast, i_inc, i_bin, i_div, i_un, i_dup, i_pop, i_dup2, i_if, i_icmp, i_nul, i_nnl, i_goto, i_getf, i_putf, i_gets, i_nald, i_nast, i_aald, i_aast, i_alen, i_new, i_newa, i_newq, i_math, i_oini, i_iret, i_zret, i_aret, i_vret, z_fit, List.getElem?_cons_zero, List.getElem?_cons_succ, List.set_cons_zero, List.set_cons_succ, Nat.reduceAdd, Nat.reduceLT, Nat.reduceLeDiff, Nat.reduceEqDiff, Nat.zero_lt_succ, Value.category, true_and, or_true, true_or, and_true, false_implies, true_implies, not_false_eq_true, not_true_eq_false, List.map_cons, List.map_nil, List.sum_cons, List.sum_nil, va_up_eq, bx_uu, va_up_lit, List.length_cons, List.length_nil, List.drop_succ_cons, List.drop_zero, Option.toList_some, Option.toList_none, List.cons_append, List.nil_append]))
  refine hP _ _ (Or.inl ⟨tv (den t0), Z, y, n2, den2, (hacc _ _).mpr ⟨hk0, rfl, hfs, hs, hkz⟩, rfl, y1, y2, y3, hx2, hT3, ?_, va_up_eq _ _ _, ?_, ?_⟩)
  · exact hM2.same (fun q hq => by
      show va_up _ _ _ q = _
      rw [va_up_lit _ _ _ _ (by omega), va_up_lit _ _ _ _ (by omega)])
  · show va_up _ _ _ (c + 1) = _
    rw [va_up_lit _ _ _ _ (by omega), va_up_eq]
  · exact ((hf1.C (by decide) (by decide)).tr frC_set1).tr frC_set
end CH3
