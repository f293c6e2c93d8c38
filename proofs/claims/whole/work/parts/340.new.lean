section NX
variable {f : Nat → va_E}
set_option maxHeartbeats 16000000 in
theorem c_Teinit (sc : Nat × (Nat → Int32)) (d : Nat) (e : f 1 = .inr (4, [.null, .null, .null, .null, .null, .null, .null, .null, .null, .int 0, .int 0])) : zMt zTab sc (d + 1) 32 [.ref 1] (f, 2) 9 5189 (fun r h' => r = none ∧ h'.2 = 11 ∧ tS h' (fun _ _ => 0) 0 8 ∧ ∀ q, q = 0 ∨ 10 < q → h'.1 q = f q) := by
  have w1 : ¬ (720 : Int32) < 0 := by decide
  have w2 : (720 : Int32).toNatClampNeg = 720 := by decide
  have w3 : ¬ (128 : Int32) < 0 := by decide
  have w4 : (128 : Int32).toNatClampNeg = 128 := by decide
  have w5 : ¬ (21 : Int32) < 0 := by decide
  have w6 : (21 : Int32).toNatClampNeg = 21 := by decide
  refine zM_gen fun P hP => ?_
  refine zM_start (r := r_Te_init) (cd := k_Te_init) (L0 := [some (.ref 1)]) rfl rfl rfl rfl rfl ?_
  (repeat (refine zS_one rfl ?_; simp (disch := (first | decide | assumption | omega)) only [i_push, i_null, i_ild, i_ald, i_ist, i_ast, i_inc, i_bin, i_div, i_un, i_dup, i_pop, i_dup2, i_if, i_icmp, i_nul, i_nnl, i_goto, i_getf, i_putf, i_gets, i_nald, i_nast, i_aald, i_aast, i_alen, i_new, i_newa, i_newq, i_math, i_oini, i_iret, i_zret, i_aret, i_vret, z_fit, List.getElem?_cons_zero, List.getElem?_cons_succ, List.set_cons_zero, List.set_cons_succ, Nat.reduceAdd, Nat.reduceLT, Nat.reduceLeDiff, Nat.reduceEqDiff, Nat.zero_lt_succ, Value.category, true_and, or_true, true_or, and_true, false_implies, true_implies, not_false_eq_true, not_true_eq_false, List.map_cons, List.map_nil, List.sum_cons, List.sum_nil, va_up_eq, bx_uu, va_up_lit, List.length_cons, List.length_nil, List.drop_succ_cons, List.drop_zero, Option.toList_some, Option.toList_none, List.cons_append, List.nil_append, e, w1, w2, w3, w4, w5, w6]))
  refine hP _ _ ⟨rfl, rfl, ⟨?_, ?_, ?_, ?_, ?_, ?_, ?_, ?_, ?_, ?_⟩, fun q hq => ?_⟩
  all_goals first
    | (simp (disch := decide) only [va_up_eq, va_up_lit]; done)
    | (simp (disch := decide) only [va_up_eq, va_up_lit]; rfl)
    | (simp (disch := omega) only [va_up_lit]; done)
set_option maxHeartbeats 4000000 in
theorem c_Meinit (sc : Nat × (Nat → Int32)) (d : Nat) (e : f 11 = .inr (2, [.null, .null, .int 0])) : zMt zTab sc (d + 1) 19 [.ref 11] (f, 12) 2 240 (fun r h' => r = none ∧ h'.2 = 14 ∧ mS h' 0 (fun _ => 0) (fun _ => 0) ∧ ∀ q, q < 11 ∨ 13 < q → h'.1 q = f q) := by
  have w1 : ¬ (60 : Int32) < 0 := by decide
  have w2 : (60 : Int32).toNatClampNeg = 60 := by decide
  have w3 : ¬ (180 : Int32) < 0 := by decide
  have w4 : (180 : Int32).toNatClampNeg = 180 := by decide
  refine zM_gen fun P hP => ?_
  refine zM_start (r := r_Me_init) (cd := k_Me_init) (L0 := [some (.ref 11)]) rfl rfl rfl rfl rfl ?_
  (repeat (refine zS_one rfl ?_; simp (disch := (first | decide | assumption | omega)) only [i_push, i_null, i_ild, i_ald, i_ist, i_ast, i_inc, i_bin, i_div, i_un, i_dup, i_pop, i_dup2, i_if, i_icmp, i_nul, i_nnl, i_goto, i_getf, i_putf, i_gets, i_nald, i_nast, i_aald, i_aast, i_alen, i_new, i_newa, i_newq, i_math, i_oini, i_iret, i_zret, i_aret, i_vret, z_fit, List.getElem?_cons_zero, List.getElem?_cons_succ, List.set_cons_zero, List.set_cons_succ, Nat.reduceAdd, Nat.reduceLT, Nat.reduceLeDiff, Nat.reduceEqDiff, Nat.zero_lt_succ, Value.category, true_and, or_true, true_or, and_true, false_implies, true_implies, not_false_eq_true, not_true_eq_false, List.map_cons, List.map_nil, List.sum_cons, List.sum_nil, va_up_eq, bx_uu, va_up_lit, List.length_cons, List.length_nil, List.drop_succ_cons, List.drop_zero, Option.toList_some, Option.toList_none, List.cons_append, List.nil_append, e, w1, w2, w3, w4]))
  refine hP _ _ ⟨rfl, rfl, ⟨?_, ?_, ?_⟩, fun q hq => ?_⟩
  all_goals first
    | (simp (disch := decide) only [va_up_eq, va_up_lit]; done)
    | (simp (disch := decide) only [va_up_eq, va_up_lit]; rfl)
    | (simp (disch := omega) only [va_up_lit]; done)
/-- what a new SealedTalks is -/
def nwC (h : zH) : Prop := h.1 0 = .inr (5, [.ref 1, .ref 11, .ref 14, .int 0]) ∧ h.1 14 = .inl (4, 12, .inr (.inr (.inr (.inr (fun _ => none))))) ∧ tS h (fun _ _ => 0) 0 8 ∧ mS h 0 (fun _ => 0) (fun _ => 0)
set_option maxHeartbeats 4000000 in
theorem c_Stinit (sc : Nat × (Nat → Int32)) (d : Nat) (e : f 0 = .inr (5, [.null, .null, .null, .int 0])) : zMt zTab sc (d + 2) 56 [.ref 0] (f, 1) 14 5455 (fun r h' => r = none ∧ h'.2 = 15 ∧ nwC h' ∧ ∀ q, 14 < q → h'.1 q = f q) := by
  have w1 : ¬ (12 : Int32) < 0 := by decide
  have w2 : (12 : Int32).toNatClampNeg = 12 := by decide
  refine zM_gen fun P hP => ?_
  refine zM_start (r := r_St_init) (cd := k_St_init) (L0 := [some (.ref 0)]) rfl rfl rfl rfl rfl ?_
  (repeat (refine zS_one rfl ?_; simp (disch := (first | decide | assumption | omega)) only [i_push, i_null, i_ild, i_ald, i_ist, i_ast, i_inc, i_bin, i_div, i_un, i_dup, i_pop, i_dup2, i_if, i_icmp, i_nul, i_nnl, i_goto, i_getf, i_putf, i_gets, i_nald, i_nast, i_aald, i_aast, i_alen, i_new, i_newa, i_newq, i_math, i_oini, i_iret, i_zret, i_aret, i_vret, z_fit, List.getElem?_cons_zero, List.getElem?_cons_succ, List.set_cons_zero, List.set_cons_succ, Nat.reduceAdd, Nat.reduceLT, Nat.reduceLeDiff, Nat.reduceEqDiff, Nat.zero_lt_succ, Value.category, true_and, or_true, true_or, and_true, false_implies, true_implies, not_false_eq_true, not_true_eq_false, List.map_cons, List.map_nil, List.sum_cons, List.sum_nil, va_up_eq, bx_uu, va_up_lit, List.length_cons, List.length_nil, List.drop_succ_cons, List.drop_zero, Option.toList_some, Option.toList_none, List.cons_append, List.nil_append, e]))
  (try refine zS_one rfl ?_)
  refine r_callI (c_Teinit sc d (va_up_eq _ _ _)) rfl rfl rfl rfl (by decide) (by decide) ?_
  rintro r ⟨f1, N1⟩ ⟨rfl, hN1, hT, hf1⟩
  have hN1' : N1 = 11 := hN1
  subst hN1'
  have e1 : f1 0 = .inr (5, [.null, .null, .null, .int 0]) := (hf1 0 (Or.inl rfl)).trans ((va_up_lit _ _ _ _ (by decide)).trans e)
  (repeat (refine zS_one rfl ?_; simp (disch := (first | decide | assumption | omega)) only [i_push, i_null, i_ild, i_ald, i_ist, i_ast, i_inc, i_bin, i_div, i_un, i_dup, i_pop, i_dup2, i_if, i_icmp, i_nul, i_nnl, i_goto, i_getf, i_putf, i_gets, i_nald, i_nast, i_aald, i_aast, i_alen, i_new, i_newa, i_newq, i_math, i_oini, i_iret, i_zret, i_aret, i_vret, z_fit, List.getElem?_cons_zero, List.getElem?_cons_succ, List.set_cons_zero, List.set_cons_succ, Nat.reduceAdd, Nat.reduceLT, Nat.reduceLeDiff, Nat.reduceEqDiff, Nat.zero_lt_succ, Value.category, true_and, or_true, true_or, and_true, false_implies, true_implies, not_false_eq_true, not_true_eq_false, List.map_cons, List.map_nil, List.sum_cons, List.sum_nil, va_up_eq, bx_uu, va_up_lit, List.length_cons, List.length_nil, List.drop_succ_cons, List.drop_zero, Option.toList_some, Option.toList_none, List.cons_append, List.nil_append, e1]))
  (try refine zS_one rfl ?_)
  refine r_callI (c_Meinit sc d (va_up_eq _ _ _)) rfl rfl rfl rfl (by decide) (by decide) ?_
  rintro r ⟨f2, N2⟩ ⟨rfl, hN2, hMm, hf2⟩
  have hN2' : N2 = 14 := hN2
  subst hN2'
  have e2 : f2 0 = .inr (5, [.ref 1, .null, .null, .int 0]) := (hf2 0 (Or.inl (by decide))).trans (by simp (disch := decide) only [va_up_eq, va_up_lit])
  have f12 : ∀ q, 0 < q → q < 11 ∨ 13 < q → f2 q = f1 q := fun q h0 hq => (hf2 q hq).trans (by simp (disch := omega) only [va_up_lit])
  (repeat (refine zS_one rfl ?_; simp (disch := (first | decide | assumption | omega)) only [i_push, i_null, i_ild, i_ald, i_ist, i_ast, i_inc, i_bin, i_div, i_un, i_dup, i_pop, i_dup2, i_if, i_icmp, i_nul, i_nnl, i_goto, i_getf, i_putf, i_gets, i_nald, i_nast, i_aald, i_aast, i_alen, i_new, i_newa, i_newq, i_math, i_oini, i_iret, i_zret, i_aret, i_vret, z_fit, List.getElem?_cons_zero, List.getElem?_cons_succ, List.set_cons_zero, List.set_cons_succ, Nat.reduceAdd, Nat.reduceLT, Nat.reduceLeDiff, Nat.reduceEqDiff, Nat.zero_lt_succ, Value.category, true_and, or_true, true_or, and_true, false_implies, true_implies, not_false_eq_true, not_true_eq_false, List.map_cons, List.map_nil, List.sum_cons, List.sum_nil, va_up_eq, bx_uu, va_up_lit, List.length_cons, List.length_nil, List.drop_succ_cons, List.drop_zero, Option.toList_some, Option.toList_none, List.cons_append, List.nil_append, e2, w1, w2]))
  have fq : ∀ q, q ≠ 0 → q ≠ 14 → ∀ F : Nat → va_E, F q = f2 q → F q = f2 q := fun _ _ _ _ h => h
  refine hP _ _ ⟨rfl, rfl, ⟨?_, ?_, ?_, ?_⟩, fun q hq => ?_⟩
  · simp (disch := decide) only [va_up_eq, va_up_lit]
  · simp (disch := decide) only [va_up_eq, va_up_lit]
  · obtain ⟨q1, q2, q3, q4, q5, q6, q7, q8, q9, q10⟩ := hT
    refine ⟨?_, ?_, ?_, ?_, ?_, ?_, ?_, ?_, ?_, ?_⟩ <;> simp (disch := decide) only [va_up_lit]
    · exact (f12 1 (by decide) (by decide)).trans q1
    · exact (f12 2 (by decide) (by decide)).trans q2
    · exact (f12 3 (by decide) (by decide)).trans q3
    · exact (f12 4 (by decide) (by decide)).trans q4
    · exact (f12 5 (by decide) (by decide)).trans q5
    · exact (f12 6 (by decide) (by decide)).trans q6
    · exact (f12 7 (by decide) (by decide)).trans q7
    · exact (f12 8 (by decide) (by decide)).trans q8
    · exact (f12 9 (by decide) (by decide)).trans q9
    · exact (f12 10 (by decide) (by decide)).trans q10
  · obtain ⟨q1, q2, q3⟩ := hMm
    refine ⟨?_, ?_, ?_⟩ <;> simp (disch := decide) only [va_up_lit]
    · exact q1
    · exact q2
    · exact q3
  · simp (disch := omega) only [va_up_lit]
    exact (f12 q (by omega) (by omega)).trans ((hf1 q (by omega)).trans (va_up_lit _ _ _ _ (by omega)))
set_option maxHeartbeats 32000000 in
theorem c_Moinit (sc : Nat × (Nat → Int32)) (d : Nat) (e : f 15 = .inr (6, [.int 0, .null, .null, .null, .null, .null, .null, .int 0, .null, .null, .int 0, .null, .int 0, .null, .null, .null, .null, .null, .null, .null, .null, .null, .null, .null, .null, .null, .null, .null, .null, .null, .null, .int 0, .int 0, .int 0, .int 0, .int 0, .int 0, .int 0, .int 0, .int 0, .null, .int 0, .int 0])) : zMt zTab sc (d + 1) 79 [.ref 15] (f, 16) 28 7699 (fun r h' => r = none ∧ h'.2 = 44 ∧ MS h' (fun _ => 0) (fun _ _ => 0) ∧ ∀ q, q < 15 ∨ 43 < q → h'.1 q = f q) := by
  have w1 : ¬ (1200 : Int32) < 0 := by decide
  have w2 : (1200 : Int32).toNatClampNeg = 1200 := by decide
  have w3 : ¬ (60 : Int32) < 0 := by decide
  have w4 : (60 : Int32).toNatClampNeg = 60 := by decide
  have w5 : ¬ (180 : Int32) < 0 := by decide
  have w6 : (180 : Int32).toNatClampNeg = 180 := by decide
  have w7 : ¬ (40 : Int32) < 0 := by decide
  have w8 : (40 : Int32).toNatClampNeg = 40 := by decide
  have w9 : ¬ (12 : Int32) < 0 := by decide
  have w10 : (12 : Int32).toNatClampNeg = 12 := by decide
  have w11 : ¬ (3 : Int32) < 0 := by decide
  have w12 : (3 : Int32).toNatClampNeg = 3 := by decide
  refine zM_gen fun P hP => ?_
  refine zM_start (r := r_Mo_init) (cd := k_Mo_init) (L0 := [some (.ref 15)]) rfl rfl rfl rfl rfl ?_
  (repeat (refine zS_one rfl ?_; simp (disch := (first | decide | assumption | omega)) only [i_push, i_null, i_ild, i_ald, i_ist, i_ast, i_inc, i_bin, i_div, i_un, i_dup, i_pop, i_dup2, i_if, i_icmp, i_nul, i_nnl, i_goto, i_getf, i_putf, i_gets, i_nald, i_nast, i_aald, i_aast, i_alen, i_new, i_newa, i_newq, i_math, i_oini, i_iret, i_zret, i_aret, i_vret, z_fit, List.getElem?_cons_zero, List.getElem?_cons_succ, List.set_cons_zero, List.set_cons_succ, Nat.reduceAdd, Nat.reduceLT, Nat.reduceLeDiff, Nat.reduceEqDiff, Nat.zero_lt_succ, Value.category, true_and, or_true, true_or, and_true, false_implies, true_implies, not_false_eq_true, not_true_eq_false, List.map_cons, List.map_nil, List.sum_cons, List.sum_nil, va_up_eq, bx_uu, va_up_lit, List.length_cons, List.length_nil, List.drop_succ_cons, List.drop_zero, Option.toList_some, Option.toList_none, List.cons_append, List.nil_append, e, w1, w2, w3, w4, w5, w6, w7, w8, w9, w10, w11, w12]))
  refine hP _ _ ⟨rfl, rfl, ⟨?_, fun p hp1 hp2 => ?_⟩, fun q hq => ?_⟩
  · simp (disch := decide) only [va_up_eq, va_up_lit]
    rfl
  · rcases (show p = 16 ∨ p = 17 ∨ p = 18 ∨ p = 19 ∨ p = 20 ∨ p = 21 ∨ p = 22 ∨ p = 23 ∨ p = 24 ∨ p = 25 ∨ p = 26 ∨ p = 27 ∨ p = 28 ∨ p = 29 ∨ p = 30 ∨ p = 31 ∨ p = 32 ∨ p = 33 ∨ p = 34 ∨ p = 35 ∨ p = 36 ∨ p = 37 ∨ p = 38 ∨ p = 39 ∨ p = 40 ∨ p = 41 ∨ p = 42 ∨ p = 43 by omega) with rfl | rfl | rfl | rfl | rfl | rfl | rfl | rfl | rfl | rfl | rfl | rfl | rfl | rfl | rfl | rfl | rfl | rfl | rfl | rfl | rfl | rfl | rfl | rfl | rfl | rfl | rfl | rfl <;> (simp (disch := decide) only [va_up_eq, va_up_lit]; rfl)
  · simp (disch := omega) only [va_up_lit]
theorem nw_cOK {h : zH} (hn : nwC h) (hs : h.2 = 44) (den : Nat → zT) (V : Nat → zV) : cOK h 0 0 8 den (fun _ => 0) 0 (fun _ => []) V := by
  obtain ⟨h0, h14, hT, hM⟩ := hn
  refine ⟨h0, by decide, ⟨_, h14, fun s hs => by omega⟩, ⟨fun _ _ => 0, hT, ⟨by decide, ⟨by decide, by decide⟩, fun _ => Or.inl rfl, fun _ => Or.inl rfl, rfl, fun t h1 h2 => by omega, fun t u h1 h2 => by omega, fun t h1 h2 => by omega, fun t h1 h2 => by omega, fun j hj => ⟨0, by decide, rfl, Or.inl rfl, fun u h1 h2 => by omega⟩⟩, rfl⟩, ⟨_, _, hM, by decide, fun i _ => ⟨Nat.zero_le 3, rfl, fun j τ hj => by simp at hj⟩, fun _ _ => rfl⟩, fun s hs => by omega, hs⟩
theorem nw_MO {h : zH} (hS : MS h (fun _ => 0) (fun _ _ => 0)) (den : Nat → zT) (V : Nat → zV) : MO h 0 0 0 den (fun _ => 0) 0 (fun _ => []) V (fun _ => 0) (fun _ _ => 0) :=
  ⟨⟨hS, rfl, by decide, fun t ht => by omega, fun t u ht => by omega⟩, ⟨rfl, rfl, rfl⟩, ⟨by decide, by decide, by decide⟩, fun _ _ => rfl, fun i hi => by omega, fun s hs => by omega, fun _ _ _ _ _ _ => rfl⟩
end NX
