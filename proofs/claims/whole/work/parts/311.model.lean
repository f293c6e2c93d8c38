theorem nI_3 (m j : Nat) : (3 : Int32) * nI m + nI j = nI (3 * m + j) := by
  show Int32.ofNat 3 * Int32.ofNat m + Int32.ofNat j = Int32.ofNat (3 * m + j)
  rw [Int32.ofNat_add, Int32.ofNat_mul]
def fillF (A : Nat → Nat → Int32) (m j : Nat) : Nat → Int32 := fun q => if 3 * m ≤ q ∧ q < 3 * m + j then A 43 (q - 3 * m) else A 23 q
theorem fillF_0 (A : Nat → Nat → Int32) (m : Nat) : fillF A m 0 = A 23 := by
  funext q
  unfold fillF
  rw [if_neg (by omega)]
theorem fillF_1 (A : Nat → Nat → Int32) (m j : Nat) : upd (fillF A m j) (3 * m + j) (A 43 j) = fillF A m (j + 1) := by
  funext q
  by_cases z : q = 3 * m + j
  · subst z
    rw [upd_s]
    unfold fillF
    rw [if_pos (by omega), show 3 * m + j - 3 * m = j by omega]
  · rw [upd_n z]
    unfold fillF
    by_cases y : 3 * m ≤ q ∧ q < 3 * m + j
    · rw [if_pos y, if_pos (by omega)]
    · rw [if_neg y, if_neg (by omega)]
def fillP (A : Nat → Nat → Int32) (m j : Nat) : Nat → Int32 := fun q => if q < j then A 23 (3 * m + q) else A 43 q
theorem fillP_0 (A : Nat → Nat → Int32) (m : Nat) : fillP A m 0 = A 43 := by
  funext q
  unfold fillP
  rw [if_neg (by omega)]
theorem fillP_1 (A : Nat → Nat → Int32) (m j : Nat) : upd (fillP A m j) j (A 23 (3 * m + j)) = fillP A m (j + 1) := by
  funext q
  by_cases z : q = j
  · subst z
    rw [upd_s]
    unfold fillP
    rw [if_pos (by omega)]
  · rw [upd_n z]
    unfold fillP
    by_cases y : q < j
    · rw [if_pos y, if_pos (by omega)]
    · rw [if_neg y, if_neg (by omega)]
section MOB
variable {h0 : zH} {S : Nat → Int32} {A : Nat → Nat → Int32} {n : Nat} {den : Nat → zT}
set_option maxHeartbeats 4000000 in
theorem c_newMessage (sc : Nat × (Nat → Int32)) (d : Nat) (hW : MW h0 S A n den) {m len : Nat} (hm : m < 60) (hl : len ≤ 3) (h1 : S 1 = nI m) : zMt zTab sc (d + 1) 100 [.ref 15, .int (nI len)] h0 0 0 (fun r h' => r = some (.int (nI m)) ∧ MW h' (va_up S 1 (nI (m + 1))) (va_up (va_up A 22 (upd (A 22) m (nI len))) 23 (fillF A m len)) n den ∧ frN h0 h') := by
  have o := hW.o
  rw [h1] at o
  have a22 := hW.a 22 0 60 (by decide) (by decide) rfl rfl
  have a23 := hW.a 23 0 180 (by decide) (by decide) rfl rfl
  have a43 := hW.a 43 0 3 (by decide) (by decide) rfl rfl
  have w3 : vp_in (nI m) 60 := vp_in_nI (by omega) (by decide)
  have w4 : (nI m).toNatClampNeg = m := nI_clamp (by omega)
  have w5 : nI (m + 1) - 1 = nI m := by rw [← nI_1 m]; exact Int32.add_sub_cancel _ _
  refine zM_gen fun P hP => ?_
  refine zM_start (r := r_Mo_newMessage) (cd := k_Mo_newMessage) (L0 := [some (.ref 15), some (.int (nI len)), none]) rfl rfl rfl rfl rfl ?_
  have loop : ∀ (c j : Nat), j + c = len → zS (zMt zTab sc d, (0, 0), sc) k_Mo_newMessage P (12, [some (.ref 15), some (.int (nI len)), some (.int (nI j))], [], (va_up (va_up h0.1 22 (.inl (0, 60, .inl (upd (A 22) m (nI len))))) 23 (.inl (0, 180, .inl (fillF A m j))), h0.2), 0, 0) := by
    intro c
    induction c with
    | zero =>
      intro j hj
      have hj' : j = len := hj
      subst hj'
      have w : nI j ≤ nI j := nI_le (Nat.le_refl _) (by omega)
      (repeat (refine zS_one rfl ?_; simp (disch := (first | decide | assumption | omega)) only [i_push, i_null, i_ild, i_ald, i_ist, i_ast, i_inc, i_bin, i_div, i_un, i_dup, i_pop, i_dup2, i_if, i_icmp, i_nul, i_nnl, i_goto, i_getf, i_putf, i_gets, i_nald, i_nast, i_aald, i_aast, i_alen, i_new, i_newa, i_newq, i_math, i_oini, i_iret, i_zret, i_aret, i_vret, z_fit, List.getElem?_cons_zero, List.getElem?_cons_succ, List.set_cons_zero, List.set_cons_succ, Nat.reduceAdd, Nat.reduceLT, Nat.reduceLeDiff, Nat.reduceEqDiff, Nat.zero_lt_succ, Value.category, true_and, or_true, true_or, and_true, false_implies, true_implies, not_false_eq_true, not_true_eq_false, List.map_cons, List.map_nil, List.sum_cons, List.sum_nil, va_up_eq, bx_uu, va_up_lit, List.length_cons, List.length_nil, List.drop_succ_cons, List.drop_zero, Option.toList_some, Option.toList_none, List.cons_append, List.nil_append, o, w, nI_1', w5]))
      refine hP _ _ ⟨rfl, (((hW.put 22 (upd (A 22) m (nI j)) (kd := 0) (ln := 60) (by decide) (by decide) rfl rfl).put 23 (fillF A m j) (kd := 0) (ln := 180) (by decide) (by decide) rfl rfl).fld ?_ (va_up_lit _ _ _ _ (by decide))), ⟨fun q hq => ?_, rfl⟩⟩
      · unfold mF; simp (disch := decide) only [va_up_eq, va_up_lit]
      · simp (disch := omega) only [va_up_lit]
    | succ c ih =>
      intro j hj
      have w : ¬ nI len ≤ nI j := nI_ge (by omega) (by omega)
      have v1 : vp_in (nI (3 * m + j)) 180 := vp_in_nI (by omega) (by decide)
      have v2 : (nI (3 * m + j)).toNatClampNeg = 3 * m + j := nI_clamp (by omega)
      have v3 : vp_in (nI j) 3 := vp_in_nI (by omega) (by decide)
      have v4 : (nI j).toNatClampNeg = j := nI_clamp (by omega)
      have := ih (j + 1) (by omega)
      (iterate 18 (refine zS_one rfl ?_; simp (disch := (first | decide | assumption | omega)) only [i_push, i_null, i_ild, i_ald, i_ist, i_ast, i_inc, i_bin, i_div, i_un, i_dup, i_pop, i_dup2, i_if, i_icmp, i_nul, i_nnl, i_goto, i_getf, i_putf, i_gets, i_nald, i_nast, i_aald, i_aast, i_alen, i_new, i_newa, i_newq, i_math, i_oini, i_iret, i_zret, i_aret, i_vret, z_fit, List.getElem?_cons_zero, List.getElem?_cons_succ, List.set_cons_zero, List.set_cons_succ, Nat.reduceAdd, Nat.reduceLT, Nat.reduceLeDiff, Nat.reduceEqDiff, Nat.zero_lt_succ, Value.category, true_and, or_true, true_or, and_true, false_implies, true_implies, not_false_eq_true, not_true_eq_false, List.map_cons, List.map_nil, List.sum_cons, List.sum_nil, va_up_eq, bx_uu, va_up_lit, List.length_cons, List.length_nil, List.drop_succ_cons, List.drop_zero, Option.toList_some, Option.toList_none, List.cons_append, List.nil_append, o, a43, w, nI_3, v1, v2, v3, v4, fillF_1, nI_1']))
      exact this
  have := loop len 0 (by omega)
  rw [fillF_0] at this
  (iterate 8 (refine zS_one rfl ?_; simp (disch := (first | decide | assumption | omega)) only [i_push, i_null, i_ild, i_ald, i_ist, i_ast, i_inc, i_bin, i_div, i_un, i_dup, i_pop, i_dup2, i_if, i_icmp, i_nul, i_nnl, i_goto, i_getf, i_putf, i_gets, i_nald, i_nast, i_aald, i_aast, i_alen, i_new, i_newa, i_newq, i_math, i_oini, i_iret, i_zret, i_aret, i_vret, z_fit, List.getElem?_cons_zero, List.getElem?_cons_succ, List.set_cons_zero, List.set_cons_succ, Nat.reduceAdd, Nat.reduceLT, Nat.reduceLeDiff, Nat.reduceEqDiff, Nat.zero_lt_succ, Value.category, true_and, or_true, true_or, and_true, false_implies, true_implies, not_false_eq_true, not_true_eq_false, List.map_cons, List.map_nil, List.sum_cons, List.sum_nil, va_up_eq, bx_uu, va_up_lit, List.length_cons, List.length_nil, List.drop_succ_cons, List.drop_zero, Option.toList_some, Option.toList_none, List.cons_append, List.nil_append, o, a22, w3, w4]))
  have e : (va_up (va_up h0.1 22 (.inl (0, 60, .inl (upd (A 22) m (nI len))))) 23 (.inl (0, 180, .inl (A 23)))) = va_up h0.1 22 (.inl (0, 60, .inl (upd (A 22) m (nI len)))) := by
    funext q
    by_cases z : q = 23
    · subst z
      rw [va_up_eq, va_up_lit _ _ _ _ (by decide), a23]
    · rw [va_up_lit _ _ _ _ z]
  rw [e] at this
  exact this
set_option maxHeartbeats 4000000 in
theorem c_fetch (sc : Nat × (Nat → Int32)) (d : Nat) (hW : MW h0 S A n den) {m len : Nat} (hm : m < 60) (hl : len ≤ 3) (h1 : A 22 m = nI len) : zMt zTab sc (d + 1) 102 [.ref 15, .int (nI m)] h0 0 0 (fun r h' => r = none ∧ MW h' (va_up S 12 (nI len)) (va_up A 43 (fillP A m len)) n den ∧ frN h0 h') := by
  have o := hW.o
  have a22 := hW.a 22 0 60 (by decide) (by decide) rfl rfl
  have a23 := hW.a 23 0 180 (by decide) (by decide) rfl rfl
  have a43 := hW.a 43 0 3 (by decide) (by decide) rfl rfl
  have w3 : vp_in (nI m) 60 := vp_in_nI (by omega) (by decide)
  have w4 : (nI m).toNatClampNeg = m := nI_clamp (by omega)
  have hW1 : MW (va_up h0.1 15 (.inr (6, mF (va_up S 12 (nI len)))), h0.2) (va_up S 12 (nI len)) A n den := hW.fld rfl (va_up_lit _ _ _ _ (by decide))
  refine zM_gen fun P hP => ?_
  refine zM_start (r := r_Mo_fetch) (cd := k_Mo_fetch) (L0 := [some (.ref 15), some (.int (nI m)), none]) rfl rfl rfl rfl rfl ?_
  have e3 : mF (va_up S 12 (nI len)) = [.int (S 0), .ref 16, .ref 17, .ref 18, .ref 19, .ref 20, .ref 21, .int (S 1), .ref 22, .ref 23, .int (S 2), .ref 24, .int (S 3), .ref 25, .ref 26, .ref 27, .ref 28, .ref 29, .ref 30, .ref 31, .ref 32, .ref 33, .ref 34, .ref 35, .ref 36, .ref 37, .ref 38, .ref 39, .ref 40, .ref 41, .ref 42, .int (S 4), .int (S 5), .int (S 6), .int (S 7), .int (S 8), .int (S 9), .int (S 10), .int (S 11), .int (nI len), .ref 43, .int (S 13), .int (S 14)] := by
    unfold mF
    simp (disch := decide) only [va_up_eq, va_up_lit]
  have loop : ∀ (c j : Nat), j + c = len → zS (zMt zTab sc d, (0, 0), sc) k_Mo_fetch P (12, [some (.ref 15), some (.int (nI m)), some (.int (nI j))], [], (va_up (va_up h0.1 15 (.inr (6, mF (va_up S 12 (nI len))))) 43 (.inl (0, 3, .inl (fillP A m j))), h0.2), 0, 0) := by
    intro c
    induction c with
    | zero =>
      intro j hj
      have hj' : j = len := hj
      subst hj'
      have w : nI j ≤ nI j := nI_le (Nat.le_refl _) (by omega)
      have hW2 := hW1.put 43 (fillP A m j) (kd := 0) (ln := 3) (by decide) (by decide) rfl rfl
      rw [e3] at hW2 ⊢
      (repeat (refine zS_one rfl ?_; simp (disch := (first | decide | assumption | omega)) only [i_push, i_null, i_ild, i_ald, i_ist, i_ast, i_inc, i_bin, i_div, i_un, i_dup, i_pop, i_dup2, i_if, i_icmp, i_nul, i_nnl, i_goto, i_getf, i_putf, i_gets, i_nald, i_nast, i_aald, i_aast, i_alen, i_new, i_newa, i_newq, i_math, i_oini, i_iret, i_zret, i_aret, i_vret, z_fit, List.getElem?_cons_zero, List.getElem?_cons_succ, List.set_cons_zero, List.set_cons_succ, Nat.reduceAdd, Nat.reduceLT, Nat.reduceLeDiff, Nat.reduceEqDiff, Nat.zero_lt_succ, Value.category, true_and, or_true, true_or, and_true, false_implies, true_implies, not_false_eq_true, not_true_eq_false, List.map_cons, List.map_nil, List.sum_cons, List.sum_nil, va_up_eq, bx_uu, va_up_lit, List.length_cons, List.length_nil, List.drop_succ_cons, List.drop_zero, Option.toList_some, Option.toList_none, List.cons_append, List.nil_append, w]))
      refine hP _ _ ⟨rfl, hW2, ⟨fun q hq => ?_, rfl⟩⟩
      simp (disch := omega) only [va_up_lit]
    | succ c ih =>
      intro j hj
      have w : ¬ nI len ≤ nI j := nI_ge (by omega) (by omega)
      have v1 : vp_in (nI (3 * m + j)) 180 := vp_in_nI (by omega) (by decide)
      have v2 : (nI (3 * m + j)).toNatClampNeg = 3 * m + j := nI_clamp (by omega)
      have v3 : vp_in (nI j) 3 := vp_in_nI (by omega) (by decide)
      have v4 : (nI j).toNatClampNeg = j := nI_clamp (by omega)
      have := ih (j + 1) (by omega)
      rw [e3] at this ⊢
      (iterate 18 (refine zS_one rfl ?_; simp (disch := (first | decide | assumption | omega)) only [i_push, i_null, i_ild, i_ald, i_ist, i_ast, i_inc, i_bin, i_div, i_un, i_dup, i_pop, i_dup2, i_if, i_icmp, i_nul, i_nnl, i_goto, i_getf, i_putf, i_gets, i_nald, i_nast, i_aald, i_aast, i_alen, i_new, i_newa, i_newq, i_math, i_oini, i_iret, i_zret, i_aret, i_vret, z_fit, List.getElem?_cons_zero, List.getElem?_cons_succ, List.set_cons_zero, List.set_cons_succ, Nat.reduceAdd, Nat.reduceLT, Nat.reduceLeDiff, Nat.reduceEqDiff, Nat.zero_lt_succ, Value.category, true_and, or_true, true_or, and_true, false_implies, true_implies, not_false_eq_true, not_true_eq_false, List.map_cons, List.map_nil, List.sum_cons, List.sum_nil, va_up_eq, bx_uu, va_up_lit, List.length_cons, List.length_nil, List.drop_succ_cons, List.drop_zero, Option.toList_some, Option.toList_none, List.cons_append, List.nil_append, a23, w, nI_3, v1, v2, v3, v4, fillP_1, nI_1']))
      exact this
  have := loop len 0 (by omega)
  rw [fillP_0] at this
  have e : (va_up (va_up h0.1 15 (.inr (6, mF (va_up S 12 (nI len))))) 43 (.inl (0, 3, .inl (A 43)))) = va_up h0.1 15 (.inr (6, mF (va_up S 12 (nI len)))) := by
    funext q
    by_cases z : q = 43
    · subst z
      rw [va_up_eq, va_up_lit _ _ _ _ (by decide), a43]
    · rw [va_up_lit _ _ _ _ z]
  rw [e, e3] at this
  (iterate 8 (refine zS_one rfl ?_; simp (disch := (first | decide | assumption | omega)) only [i_push, i_null, i_ild, i_ald, i_ist, i_ast, i_inc, i_bin, i_div, i_un, i_dup, i_pop, i_dup2, i_if, i_icmp, i_nul, i_nnl, i_goto, i_getf, i_putf, i_gets, i_nald, i_nast, i_aald, i_aast, i_alen, i_new, i_newa, i_newq, i_math, i_oini, i_iret, i_zret, i_aret, i_vret, z_fit, List.getElem?_cons_zero, List.getElem?_cons_succ, List.set_cons_zero, List.set_cons_succ, Nat.reduceAdd, Nat.reduceLT, Nat.reduceLeDiff, Nat.reduceEqDiff, Nat.zero_lt_succ, Value.category, true_and, or_true, true_or, and_true, false_implies, true_implies, not_false_eq_true, not_true_eq_false, List.map_cons, List.map_nil, List.sum_cons, List.sum_nil, va_up_eq, bx_uu, va_up_lit, List.length_cons, List.length_nil, List.drop_succ_cons, List.drop_zero, Option.toList_some, Option.toList_none, List.cons_append, List.nil_append, o, a22, w3, w4, h1]))
  exact this
end MOB
