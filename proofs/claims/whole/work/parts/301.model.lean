section MO
variable {h0 : zH} {S : Nat → Int32} {A : Nat → Nat → Int32} {n : Nat} {den : Nat → zT}
theorem MW.f (hW : MW h0 S A n den) : h0.1 15 = .inr (6, mF S) := hW.1.1
theorem MW.o (hW : MW h0 S A n den) : h0.1 15 = .inr (6, [.int (S 0), .ref 16, .ref 17, .ref 18, .ref 19, .ref 20, .ref 21, .int (S 1), .ref 22, .ref 23, .int (S 2), .ref 24, .int (S 3), .ref 25, .ref 26, .ref 27, .ref 28, .ref 29, .ref 30, .ref 31, .ref 32, .ref 33, .ref 34, .ref 35, .ref 36, .ref 37, .ref 38, .ref 39, .ref 40, .ref 41, .ref 42, .int (S 4), .int (S 5), .int (S 6), .int (S 7), .int (S 8), .int (S 9), .int (S 10), .int (S 11), .int (S 12), .ref 43, .int (S 13), .int (S 14)]) := hW.1.1
theorem MW.a (hW : MW h0 S A n den) (p kd ln : Nat) (h1 : 16 ≤ p) (h2 : p ≤ 43) (hk : mKd p = kd) (hl : mLn p = ln) : h0.1 p = .inl (kd, ln, .inl (A p)) := by
  subst hk hl
  exact hW.1.2 p h1 h2
theorem TM.more {A' : Nat → Nat → Int32} {k v a b c : Int32} {τ : zT} (hT : TM A n den) (hn : n < 1200) (hr : rw_M k v a b c den n τ) (hno : ∀ u, u < n → den u ≠ τ) (h16 : A' 16 = upd (A 16) n k) (h17 : A' 17 = upd (A 17) n v) (h18 : A' 18 = upd (A 18) n a) (h19 : A' 19 = upd (A 19) n b) (h20 : A' 20 = upd (A 20) n c) : TM A' (n + 1) (va_up den n τ) := by
  obtain ⟨h1, h2, h3⟩ := hT
  refine ⟨by omega, fun t ht => ?_, fun t u ht hu e => ?_⟩
  · rw [h16, h17, h18, h19, h20]
    by_cases z : t = n
    · subst z
      rw [upd_s, upd_s, upd_s, upd_s, upd_s, va_up_eq]
      exact rw_M_mono hr (Nat.le_refl _) (fun x hx => va_up_lit _ _ _ _ (by omega))
    · rw [upd_n z, upd_n z, upd_n z, upd_n z, upd_n z, va_up_lit _ _ _ _ z]
      exact rw_M_mono (h2 t (by omega)) (Nat.le_refl _) (fun x hx => va_up_lit _ _ _ _ (by omega))
  · by_cases z : t = n <;> by_cases w : u = n
    · omega
    · subst z
      rw [va_up_eq, va_up_lit _ _ _ _ w] at e
      exact absurd e.symm (hno u (by omega))
    · subst w
      rw [va_up_eq, va_up_lit _ _ _ _ z] at e
      exact absurd e (hno t (by omega))
    · rw [va_up_lit _ _ _ _ z, va_up_lit _ _ _ _ w] at e
      exact h3 t u (by omega) (by omega) e
set_option maxHeartbeats 4000000 in
theorem c_term (sc : Nat × (Nat → Int32)) (d : Nat) (hW : MW h0 S A n den) (hn : n < 1200) {k v a b c : Int32} {τ : zT} (hr : rw_M k v a b c den n τ) : zMt zTab sc (d + 1) 81 [.ref 15, .int k, .int v, .int a, .int b, .int c] h0 0 0 (tmQ h0 S A n den τ) := by
  have o := hW.o
  have a16 := hW.a 16 2 1200 (by decide) (by decide) rfl rfl
  have a17 := hW.a 17 0 1200 (by decide) (by decide) rfl rfl
  have a18 := hW.a 18 3 1200 (by decide) (by decide) rfl rfl
  have a19 := hW.a 19 3 1200 (by decide) (by decide) rfl rfl
  have a20 := hW.a 20 3 1200 (by decide) (by decide) rfl rfl
  have s0 := hW.2.1
  rw [s0] at o
  obtain ⟨hMS, -, hT⟩ := id hW
  refine zM_gen fun P hP => ?_
  refine zM_start (r := r_Mo_term) (cd := k_Mo_term) (L0 := [some (.ref 15), some (.int k), some (.int v), some (.int a), some (.int b), some (.int c), none]) rfl rfl rfl rfl rfl ?_
  have loop : ∀ (e j : Nat), j + e = n → (∀ u, u < j → den u ≠ τ) → zS (zMt zTab sc d, (0, 0), sc) k_Mo_term P (3, [some (.ref 15), some (.int k), some (.int v), some (.int a), some (.int b), some (.int c), some (.int (nI j))], [], h0, 0, 0) := by
    intro e
    induction e with
    | zero =>
      intro j hj hno
      have hj' : j = n := hj
      subst hj'
      have w : nI j ≤ nI j := nI_le (Nat.le_refl _) (by omega)
      have w3 : vp_in (nI j) 1200 := vp_in_nI (by omega) (by decide)
      have w4 : (nI j).toNatClampNeg = j := nI_clamp (by omega)
      obtain ⟨n1, n2, n3, n4⟩ := rw_M_nar (by omega) hr
      have w5 : nI (j + 1) - 1 = nI j := by rw [← nI_1 j]; exact Int32.add_sub_cancel _ _
      (repeat (refine zS_one rfl ?_; simp (disch := (first | decide | assumption | omega)) only [i_push, i_null, i_ild, i_ald, i_ist, i_ast, i_inc, i_bin, i_div, i_un, i_dup, i_pop, i_dup2, i_if, i_icmp, i_nul, i_nnl, i_goto, i_getf, i_putf, i_gets, i_nald, i_nast, i_aald, i_aast, i_alen, i_new, i_newa, i_newq, i_math, i_oini, i_iret, i_zret, i_aret, i_vret, z_fit, List.getElem?_cons_zero, List.getElem?_cons_succ, List.set_cons_zero, List.set_cons_succ, Nat.reduceAdd, Nat.reduceLT, Nat.reduceLeDiff, Nat.reduceEqDiff, Nat.zero_lt_succ, Value.category, true_and, or_true, true_or, and_true, false_implies, true_implies, not_false_eq_true, not_true_eq_false, List.map_cons, List.map_nil, List.sum_cons, List.sum_nil, va_up_eq, bx_uu, va_up_lit, List.length_cons, List.length_nil, List.drop_succ_cons, List.drop_zero, Option.toList_some, Option.toList_none, List.cons_append, List.nil_append, o, a16, a17, a18, a19, a20, w, w3, w4, n1, n2, n3, n4, nI_1', w5]))
      refine hP _ _ ⟨j, j + 1, va_up den j τ, va_up S 0 (nI (j + 1)), _, rfl, by omega, va_up_eq _ _ _, ⟨(((((hMS.put 16 (upd (A 16) j k) (by decide) (by decide) rfl rfl).put 17 (upd (A 17) j v) (by decide) (by decide) rfl rfl).put 18 (upd (A 18) j a) (by decide) (by decide) rfl rfl).put 19 (upd (A 19) j b) (by decide) (by decide) rfl rfl).put 20 (upd (A 20) j c) (by decide) (by decide) rfl rfl).fld ?_, va_up_eq _ _ _, ?_⟩, ⟨by omega, by omega, fun u hu => va_up_lit _ _ _ _ (by omega)⟩, fun q hq => va_up_lit _ _ _ _ hq, fun p hp => ?_, ?_⟩
      · unfold mF
        simp (disch := decide) only [va_up_eq, va_up_lit]
      · refine hT.more hn hr hno ?_ ?_ ?_ ?_ ?_ <;> simp (disch := decide) only [va_up_eq, va_up_lit]
      · simp (disch := omega) only [va_up_lit]
      · refine ⟨fun q hq => ?_, rfl⟩
        simp (disch := omega) only [va_up_lit]
    | succ e ih =>
      intro j hj hno
      have w : ¬ nI n ≤ nI j := nI_ge (by omega) (by omega)
      have w3 : vp_in (nI j) 1200 := vp_in_nI (by omega) (by decide)
      have w4 : (nI j).toNatClampNeg = j := nI_clamp (by omega)
      have hrj := hT.2.1 j (by omega)
      by_cases hd : den j = τ
      · rw [hd] at hrj
        obtain ⟨z1, z2, z3, z4, z5⟩ := rw_M_inj hT.2.2 (by omega) (Nat.le_refl _) hrj hr
        (repeat (refine zS_one rfl ?_; simp (disch := (first | decide | assumption | omega)) only [i_push, i_null, i_ild, i_ald, i_ist, i_ast, i_inc, i_bin, i_div, i_un, i_dup, i_pop, i_dup2, i_if, i_icmp, i_nul, i_nnl, i_goto, i_getf, i_putf, i_gets, i_nald, i_nast, i_aald, i_aast, i_alen, i_new, i_newa, i_newq, i_math, i_oini, i_iret, i_zret, i_aret, i_vret, z_fit, List.getElem?_cons_zero, List.getElem?_cons_succ, List.set_cons_zero, List.set_cons_succ, Nat.reduceAdd, Nat.reduceLT, Nat.reduceLeDiff, Nat.reduceEqDiff, Nat.zero_lt_succ, Value.category, true_and, or_true, true_or, and_true, false_implies, true_implies, not_false_eq_true, not_true_eq_false, List.map_cons, List.map_nil, List.sum_cons, List.sum_nil, va_up_eq, bx_uu, va_up_lit, List.length_cons, List.length_nil, List.drop_succ_cons, List.drop_zero, Option.toList_some, Option.toList_none, List.cons_append, List.nil_append, o, a16, a17, a18, a19, a20, w, w3, w4, z1, z2, z3, z4, z5]))
        exact hP _ _ ⟨j, n, den, S, A, rfl, by omega, hd, hW, exM.rf, fun _ _ => rfl, fun _ _ => rfl, frN.rf⟩
      · have next := ih (j + 1) (by omega) (fun u hu => by
          by_cases z : u = j
          · subst z; exact hd
          · exact hno u (by omega))
        by_cases z1 : A 16 j = k
        · by_cases z2 : A 17 j = v
          · by_cases z3 : A 18 j = a
            · by_cases z4 : A 19 j = b
              · by_cases z5 : A 20 j = c
                · rw [z1, z2, z3, z4, z5] at hrj
                  exact absurd (rw_M_fun (by omega) (by omega) hrj hr) hd
                · (iterate 36 (refine zS_one rfl ?_; simp (disch := (first | decide | assumption | omega)) only [i_push, i_null, i_ild, i_ald, i_ist, i_ast, i_inc, i_bin, i_div, i_un, i_dup, i_pop, i_dup2, i_if, i_icmp, i_nul, i_nnl, i_goto, i_getf, i_putf, i_gets, i_nald, i_nast, i_aald, i_aast, i_alen, i_new, i_newa, i_newq, i_math, i_oini, i_iret, i_zret, i_aret, i_vret, z_fit, List.getElem?_cons_zero, List.getElem?_cons_succ, List.set_cons_zero, List.set_cons_succ, Nat.reduceAdd, Nat.reduceLT, Nat.reduceLeDiff, Nat.reduceEqDiff, Nat.zero_lt_succ, Value.category, true_and, or_true, true_or, and_true, false_implies, true_implies, not_false_eq_true, not_true_eq_false, List.map_cons, List.map_nil, List.sum_cons, List.sum_nil, va_up_eq, bx_uu, va_up_lit, List.length_cons, List.length_nil, List.drop_succ_cons, List.drop_zero, Option.toList_some, Option.toList_none, List.cons_append, List.nil_append, o, a16, a17, a18, a19, a20, w, w3, w4, z1, z2, z3, z4, z5, nI_1']))
                  exact next
              · (iterate 30 (refine zS_one rfl ?_; simp (disch := (first | decide | assumption | omega)) only [i_push, i_null, i_ild, i_ald, i_ist, i_ast, i_inc, i_bin, i_div, i_un, i_dup, i_pop, i_dup2, i_if, i_icmp, i_nul, i_nnl, i_goto, i_getf, i_putf, i_gets, i_nald, i_nast, i_aald, i_aast, i_alen, i_new, i_newa, i_newq, i_math, i_oini, i_iret, i_zret, i_aret, i_vret, z_fit, List.getElem?_cons_zero, List.getElem?_cons_succ, List.set_cons_zero, List.set_cons_succ, Nat.reduceAdd, Nat.reduceLT, Nat.reduceLeDiff, Nat.reduceEqDiff, Nat.zero_lt_succ, Value.category, true_and, or_true, true_or, and_true, false_implies, true_implies, not_false_eq_true, not_true_eq_false, List.map_cons, List.map_nil, List.sum_cons, List.sum_nil, va_up_eq, bx_uu, va_up_lit, List.length_cons, List.length_nil, List.drop_succ_cons, List.drop_zero, Option.toList_some, Option.toList_none, List.cons_append, List.nil_append, o, a16, a17, a18, a19, a20, w, w3, w4, z1, z2, z3, z4, nI_1']))
                exact next
            · (iterate 24 (refine zS_one rfl ?_; simp (disch := (first | decide | assumption | omega)) only [i_push, i_null, i_ild, i_ald, i_ist, i_ast, i_inc, i_bin, i_div, i_un, i_dup, i_pop, i_dup2, i_if, i_icmp, i_nul, i_nnl, i_goto, i_getf, i_putf, i_gets, i_nald, i_nast, i_aald, i_aast, i_alen, i_new, i_newa, i_newq, i_math, i_oini, i_iret, i_zret, i_aret, i_vret, z_fit, List.getElem?_cons_zero, List.getElem?_cons_succ, List.set_cons_zero, List.set_cons_succ, Nat.reduceAdd, Nat.reduceLT, Nat.reduceLeDiff, Nat.reduceEqDiff, Nat.zero_lt_succ, Value.category, true_and, or_true, true_or, and_true, false_implies, true_implies, not_false_eq_true, not_true_eq_false, List.map_cons, List.map_nil, List.sum_cons, List.sum_nil, va_up_eq, bx_uu, va_up_lit, List.length_cons, List.length_nil, List.drop_succ_cons, List.drop_zero, Option.toList_some, Option.toList_none, List.cons_append, List.nil_append, o, a16, a17, a18, a19, a20, w, w3, w4, z1, z2, z3, nI_1']))
              exact next
          · (iterate 18 (refine zS_one rfl ?_; simp (disch := (first | decide | assumption | omega)) only [i_push, i_null, i_ild, i_ald, i_ist, i_ast, i_inc, i_bin, i_div, i_un, i_dup, i_pop, i_dup2, i_if, i_icmp, i_nul, i_nnl, i_goto, i_getf, i_putf, i_gets, i_nald, i_nast, i_aald, i_aast, i_alen, i_new, i_newa, i_newq, i_math, i_oini, i_iret, i_zret, i_aret, i_vret, z_fit, List.getElem?_cons_zero, List.getElem?_cons_succ, List.set_cons_zero, List.set_cons_succ, Nat.reduceAdd, Nat.reduceLT, Nat.reduceLeDiff, Nat.reduceEqDiff, Nat.zero_lt_succ, Value.category, true_and, or_true, true_or, and_true, false_implies, true_implies, not_false_eq_true, not_true_eq_false, List.map_cons, List.map_nil, List.sum_cons, List.sum_nil, va_up_eq, bx_uu, va_up_lit, List.length_cons, List.length_nil, List.drop_succ_cons, List.drop_zero, Option.toList_some, Option.toList_none, List.cons_append, List.nil_append, o, a16, a17, a18, a19, a20, w, w3, w4, z1, z2, nI_1']))
            exact next
        · (iterate 12 (refine zS_one rfl ?_; simp (disch := (first | decide | assumption | omega)) only [i_push, i_null, i_ild, i_ald, i_ist, i_ast, i_inc, i_bin, i_div, i_un, i_dup, i_pop, i_dup2, i_if, i_icmp, i_nul, i_nnl, i_goto, i_getf, i_putf, i_gets, i_nald, i_nast, i_aald, i_aast, i_alen, i_new, i_newa, i_newq, i_math, i_oini, i_iret, i_zret, i_aret, i_vret, z_fit, List.getElem?_cons_zero, List.getElem?_cons_succ, List.set_cons_zero, List.set_cons_succ, Nat.reduceAdd, Nat.reduceLT, Nat.reduceLeDiff, Nat.reduceEqDiff, Nat.zero_lt_succ, Value.category, true_and, or_true, true_or, and_true, false_implies, true_implies, not_false_eq_true, not_true_eq_false, List.map_cons, List.map_nil, List.sum_cons, List.sum_nil, va_up_eq, bx_uu, va_up_lit, List.length_cons, List.length_nil, List.drop_succ_cons, List.drop_zero, Option.toList_some, Option.toList_none, List.cons_append, List.nil_append, o, a16, a17, a18, a19, a20, w, w3, w4, z1, nI_1']))
          exact next
  have := loop n 0 (by omega) (fun u hu => absurd hu (Nat.not_lt_zero _))
  (iterate 2 (refine zS_one rfl ?_; simp (disch := (first | decide | assumption | omega)) only [i_push, i_null, i_ild, i_ald, i_ist, i_ast, i_inc, i_bin, i_div, i_un, i_dup, i_pop, i_dup2, i_if, i_icmp, i_nul, i_nnl, i_goto, i_getf, i_putf, i_gets, i_nald, i_nast, i_aald, i_aast, i_alen, i_new, i_newa, i_newq, i_math, i_oini, i_iret, i_zret, i_aret, i_vret, z_fit, List.getElem?_cons_zero, List.getElem?_cons_succ, List.set_cons_zero, List.set_cons_succ, Nat.reduceAdd, Nat.reduceLT, Nat.reduceLeDiff, Nat.reduceEqDiff, Nat.zero_lt_succ, Value.category, true_and, or_true, true_or, and_true, false_implies, true_implies, not_false_eq_true, not_true_eq_false, List.map_cons, List.map_nil, List.sum_cons, List.sum_nil, va_up_eq, bx_uu, va_up_lit, List.length_cons, List.length_nil, List.drop_succ_cons, List.drop_zero, Option.toList_some, Option.toList_none, List.cons_append, List.nil_append, nI_1]))
  exact this
end MO
