/-! Channel, at a place c from 44 on, its row of booleans at c + 1. -/
def cF (c sk rk : Nat) (I : Nat → Int32) : List Value := [.ref 1, .ref (c + 1), .int (nI sk), .int (nI rk), .int (I 12), .int (I 13)]
def skT (I : Nat → Int32) (Θ : Nat → zT) : zT := nd 7 (if I 1 = 0 then 2 else 1) 0 (Θ 1) [] []
def rkT (I : Nat → Int32) (Θ : Nat → zT) : zT := nd 7 (if I 1 = 0 then 1 else 2) 0 (Θ 1) [] []
def frC (c : Nat) (h h' : zH) : Prop := (∀ q, ¬ (1 ≤ q ∧ q ≤ 13) → q ≠ c → q ≠ c + 1 → h'.1 q = h.1 q) ∧ h'.2 = h.2
theorem frC.rf {c : Nat} {h : zH} : frC c h h := ⟨fun _ _ _ _ => rfl, rfl⟩
theorem frC.tr {c : Nat} {h h1 h2 : zH} (x : frC c h h1) (y : frC c h1 h2) : frC c h h2 := ⟨fun q h1 h2 h3 => (y.1 q h1 h2 h3).trans (x.1 q h1 h2 h3), y.2.trans x.2⟩
theorem fr.C {lo hi c : Nat} {h h' : zH} (x : fr lo hi h h') (h1 : 1 ≤ lo) (h2 : hi ≤ 13) : frC c h h' := ⟨fun q g _ _ => x.1 q (by omega), x.2⟩
theorem frC_set {h : zH} {c : Nat} {e : va_E} : frC c h (va_up h.1 c e, h.2) := ⟨fun q _ h9 _ => va_up_lit _ _ _ _ h9, rfl⟩
theorem frC_set1 {h : zH} {c : Nat} {e : va_E} : frC c h (va_up h.1 (c + 1) e, h.2) := ⟨fun q _ _ h9 => va_up_lit _ _ _ _ h9, rfl⟩
section CH
variable {h0 : zH} {c n k m : Nat} {den : Nat → zT} {G : Nat → Int32} {ps : Nat → List zT} {I : Nat → Int32} {Θ : Nat → zT}
set_option maxHeartbeats 4000000 in
theorem c_setKeys (sc : Nat × (Nat → Int32)) (d : Nat) (hc : 44 ≤ c) (hT : tOK h0 n k den G) (hM : mOK h0 n den m ps) (hn : n + 2 < 720) {sk rk y : Nat} (e : h0.1 c = .inr (1, cF c sk rk I)) (hy : 0 < y) (hyn : y ≤ n) (hyd : den y = Θ 1) (hi : I 1 = 0 ∨ I 1 = 1) : zMt zTab sc (d + 4) 15 [.ref c, .int (nI y), .int (I 1)] h0 0 0 (fun r h' => r = none ∧ ∃ n' den' u v, exq n den n' den' 2 ∧ tOK h' n' k den' G ∧ mOK h' n' den' m ps ∧ h'.1 c = .inr (1, cF c u v I) ∧ (0 < u ∧ u ≤ n' ∧ den' u = skT I Θ) ∧ (0 < v ∧ v ≤ n' ∧ den' v = rkT I Θ) ∧ frC c h0 h' ∧ h'.1 (c + 1) = h0.1 (c + 1)) := by
  unfold cF at e
  refine zM_gen fun P hP => ?_
  refine zM_start (r := r_Ch_setKeys) (cd := k_Ch_setKeys) (L0 := [some (.ref c), some (.int (nI y)), some (.int (I 1))]) rfl rfl rfl rfl rfl ?_
  have main : ∀ (w1 w2 : Int32), skT I Θ = nd 7 w1.toInt 0 (Θ 1) [] [] → rkT I Θ = nd 7 w2.toInt 0 (Θ 1) [] [] → (∀ (u : Nat) (h2 : zH), h2.1 c = .inr (1, cF c u rk I) → i_callV 4 39 2 (zMt zTab sc (d + 3), (0, 0), sc) (36, [some (.ref c), some (.int (nI y)), some (.int (I 1))], [.int w2, .int (nI y), .ref 1, .ref c], h2, 0, 0) (zS (zMt zTab sc (d + 3), (0, 0), sc) k_Ch_setKeys P) P → zS (zMt zTab sc (d + 3), (0, 0), sc) k_Ch_setKeys P (21, [some (.ref c), some (.int (nI y)), some (.int (I 1))], [], h2, 0, 0)) → i_callV 4 39 2 (zMt zTab sc (d + 3), (0, 0), sc) (15, [some (.ref c), some (.int (nI y)), some (.int (I 1))], [.int w1, .int (nI y), .ref 1, .ref c], h0, 0, 0) (zS (zMt zTab sc (d + 3), (0, 0), sc) k_Ch_setKeys P) P := by
    intro w1 w2 hs hr mid
    refine r_callV (c_half sc d hT (by omega) w1 hy hyn) rfl rfl rfl rfl hT.o (Nat.le_refl _) (Nat.le_refl _) ?_
    rintro r h1 ⟨u, n1, den1, rfl, u1, u2, u3, hT1, g1, g2, g3, hf1⟩
    have e1 : h1.1 c = _ := (hf1.1 c (by omega)).trans e
    (iterate 1 (refine zS_one rfl ?_; simp (disch := (first | decide | assumption | omega)) only [i_push, i_null, i_ild, i_ald, i_ist, i_ast, i_inc, i_bin, i_div, i_un, i_dup, i_pop, i_dup2, i_if, i_icmp, i_nul, i_nnl, i_goto, i_getf, i_putf, i_gets, i_nald, i_nast, i_aald, i_aast, i_alen, i_new, i_newa, i_newq, i_math, i_oini, i_iret, i_zret, i_aret, i_vret, z_fit, List.getElem?_cons_zero, List.getElem?_cons_succ, List.set_cons_zero, List.set_cons_succ, Nat.reduceAdd, Nat.reduceLT, Nat.reduceLeDiff, Nat.reduceEqDiff, Nat.zero_lt_succ, Value.category, true_and, or_true, true_or, and_true, false_implies, true_implies, not_false_eq_true, not_true_eq_false, List.map_cons, List.map_nil, List.sum_cons, List.sum_nil, va_up_eq, bx_uu, va_up_lit, List.length_cons, List.length_nil, List.drop_succ_cons, List.drop_zero, Option.toList_some, Option.toList_none, List.cons_append, List.nil_append, e1]))
    have hT2 : tOK (va_up h1.1 c (.inr (1, cF c u rk I)), h1.2) n1 k den1 G := hT1.same (fun q hq => va_up_lit _ _ _ _ (by omega))
    have hM2 : mOK (va_up h1.1 c (.inr (1, cF c u rk I)), h1.2) n1 den1 m ps := (hM.fr (hi := 10) g1 g3 hf1 (by omega)).same (fun q hq => va_up_lit _ _ _ _ (by omega))
    refine mid u (va_up h1.1 c (.inr (1, cF c u rk I)), h1.2) (va_up_eq _ _ _) ?_
    refine r_callV (c_half sc d (h0 := (va_up h1.1 c (.inr (1, cF c u rk I)), h1.2)) hT2 (by omega) w2 hy (Nat.le_trans hyn g1)) rfl rfl rfl rfl hT2.o (Nat.le_refl _) (Nat.le_refl _) ?_
    rintro r h3 ⟨v, n3, den3, rfl, v1, v2, v3, hT3, g4, g5, g6, hf3⟩
    have e3 : h3.1 c = .inr (1, cF c u rk I) := (hf3.1 c (by omega)).trans (va_up_eq _ _ _)
    unfold cF at e3
    (repeat (refine zS_one rfl ?_; simp (disch := (first | decide | assumption | omega)) only [i_push, i_null, i_ild, i_ald, i_ist, i_ast, i_inc, i_bin, i_div, i_un, i_dup, i_pop, i_dup2, i_if, i_icmp, i_nul, i_nnl, i_goto, i_getf, i_putf, i_gets, i_nald, i_nast, i_aald, i_aast, i_alen, i_new, i_newa, i_newq, i_math, i_oini, i_iret, i_zret, i_aret, i_vret, z_fit, List.getElem?_cons_zero, List.getElem?_cons_succ, List.set_cons_zero, List.set_cons_succ, Nat.reduceAdd, Nat.reduceLT, Nat.reduceLeDiff, Nat.reduceEqDiff, Nat.zero_lt_succ, Value.category, true_and, or_true, true_or, and_true, false_implies, true_implies, not_false_eq_true, not_true_eq_false, List.map_cons, List.map_nil, List.sum_cons, List.sum_nil, va_up_eq, bx_uu, va_up_lit, List.length_cons, List.length_nil, List.drop_succ_cons, List.drop_zero, Option.toList_some, Option.toList_none, List.cons_append, List.nil_append, e3]))
    refine hP _ _ ⟨rfl, n3, den3, u, v, exq.tr (c := 1) (c' := 1) ⟨g1, g2, g3⟩ ⟨g4, g5, g6⟩, hT3.same (fun q hq => va_up_lit _ _ _ _ (by omega)), (hM2.fr (hi := 10) g4 g6 hf3 (by omega)).same (fun q hq => va_up_lit _ _ _ _ (by omega)), va_up_eq _ _ _, ⟨u1, by omega, ?_⟩, ⟨v1, v2, ?_⟩, ?_, ?_⟩
    · rw [g6 u u1 u2, u3, hyd, hs]
    · rw [v3, g3 y hy hyn, hyd, hr]
    · exact ((hf1.C (by decide) (by decide)).tr frC_set).tr ((hf3.C (by decide) (by decide)).tr frC_set)
    · show va_up h3.1 c _ (c + 1) = _
      rw [va_up_lit _ _ _ _ (by omega), hf3.1 _ (by omega)]
      show va_up h1.1 c _ (c + 1) = _
      rw [va_up_lit _ _ _ _ (by omega), hf1.1 _ (by omega)]
  have q10 : ¬ (1 : Int32) = 0 := by decide
  rcases hi with hi | hi
  · rw [hi] at main ⊢
    (repeat (refine zS_one rfl ?_; simp (disch := (first | decide | assumption | omega)) only [i_push, i_null, i_ild, i_ald, i_ist, i_ast, i_inc, i_bin, i_div, i_un, i_dup, i_pop, i_dup2, i_if, i_icmp, i_nul, i_nnl, i_goto, i_getf, i_putf, i_gets, i_nald, i_nast, i_aald, i_aast, i_alen, i_new, i_newa, i_newq, i_math, i_oini, i_iret, i_zret, i_aret, i_vret, z_fit, List.getElem?_cons_zero, List.getElem?_cons_succ, List.set_cons_zero, List.set_cons_succ, Nat.reduceAdd, Nat.reduceLT, Nat.reduceLeDiff, Nat.reduceEqDiff, Nat.zero_lt_succ, Value.category, true_and, or_true, true_or, and_true, false_implies, true_implies, not_false_eq_true, not_true_eq_false, List.map_cons, List.map_nil, List.sum_cons, List.sum_nil, va_up_eq, bx_uu, va_up_lit, List.length_cons, List.length_nil, List.drop_succ_cons, List.drop_zero, Option.toList_some, Option.toList_none, List.cons_append, List.nil_append, e]))
    refine main 2 1 (by unfold skT; rw [hi, if_pos rfl]; rfl) (by unfold rkT; rw [hi, if_pos rfl]; rfl) (fun u h2 e2 hk => ?_)
    unfold cF at e2
    (repeat (refine zS_one rfl ?_; simp (disch := (first | decide | assumption | omega)) only [i_push, i_null, i_ild, i_ald, i_ist, i_ast, i_inc, i_bin, i_div, i_un, i_dup, i_pop, i_dup2, i_if, i_icmp, i_nul, i_nnl, i_goto, i_getf, i_putf, i_gets, i_nald, i_nast, i_aald, i_aast, i_alen, i_new, i_newa, i_newq, i_math, i_oini, i_iret, i_zret, i_aret, i_vret, z_fit, List.getElem?_cons_zero, List.getElem?_cons_succ, List.set_cons_zero, List.set_cons_succ, Nat.reduceAdd, Nat.reduceLT, Nat.reduceLeDiff, Nat.reduceEqDiff, Nat.zero_lt_succ, Value.category, true_and, or_true, true_or, and_true, false_implies, true_implies, not_false_eq_true, not_true_eq_false, List.map_cons, List.map_nil, List.sum_cons, List.sum_nil, va_up_eq, bx_uu, va_up_lit, List.length_cons, List.length_nil, List.drop_succ_cons, List.drop_zero, Option.toList_some, Option.toList_none, List.cons_append, List.nil_append, e2]))
    exact hk
  · rw [hi] at main ⊢
    (repeat (refine zS_one rfl ?_; simp (disch := (first | decide | assumption | omega)) only [i_push, i_null, i_ild, i_ald, i_ist, i_ast, i_inc, i_bin, i_div, i_un, i_dup, i_pop, i_dup2, i_if, i_icmp, i_nul, i_nnl, i_goto, i_getf, i_putf, i_gets, i_nald, i_nast, i_aald, i_aast, i_alen, i_new, i_newa, i_newq, i_math, i_oini, i_iret, i_zret, i_aret, i_vret, z_fit, List.getElem?_cons_zero, List.getElem?_cons_succ, List.set_cons_zero, List.set_cons_succ, Nat.reduceAdd, Nat.reduceLT, Nat.reduceLeDiff, Nat.reduceEqDiff, Nat.zero_lt_succ, Value.category, true_and, or_true, true_or, and_true, false_implies, true_implies, not_false_eq_true, not_true_eq_false, List.map_cons, List.map_nil, List.sum_cons, List.sum_nil, va_up_eq, bx_uu, va_up_lit, List.length_cons, List.length_nil, List.drop_succ_cons, List.drop_zero, Option.toList_some, Option.toList_none, List.cons_append, List.nil_append, e, q10]))
    refine main 1 2 (by unfold skT; rw [hi, if_neg q10]; rfl) (by unfold rkT; rw [hi, if_neg q10]; rfl) (fun u h2 e2 hk => ?_)
    unfold cF at e2
    (repeat (refine zS_one rfl ?_; simp (disch := (first | decide | assumption | omega)) only [i_push, i_null, i_ild, i_ald, i_ist, i_ast, i_inc, i_bin, i_div, i_un, i_dup, i_pop, i_dup2, i_if, i_icmp, i_nul, i_nnl, i_goto, i_getf, i_putf, i_gets, i_nald, i_nast, i_aald, i_aast, i_alen, i_new, i_newa, i_newq, i_math, i_oini, i_iret, i_zret, i_aret, i_vret, z_fit, List.getElem?_cons_zero, List.getElem?_cons_succ, List.set_cons_zero, List.set_cons_succ, Nat.reduceAdd, Nat.reduceLT, Nat.reduceLeDiff, Nat.reduceEqDiff, Nat.zero_lt_succ, Value.category, true_and, or_true, true_or, and_true, false_implies, true_implies, not_false_eq_true, not_true_eq_false, List.map_cons, List.map_nil, List.sum_cons, List.sum_nil, va_up_eq, bx_uu, va_up_lit, List.length_cons, List.length_nil, List.drop_succ_cons, List.drop_zero, Option.toList_some, Option.toList_none, List.cons_append, List.nil_append, e2, q10]))
    exact hk
end CH
