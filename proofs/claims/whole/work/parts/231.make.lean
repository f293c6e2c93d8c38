theorem c720 : (720 : Int32) = nI 720 := by decide
theorem nI_1' (a : Nat) : nI a + 1 = nI (a + 1) := nI_1 a
set_option maxHeartbeats 4000000 in
theorem c_make1 (sc : Nat × (Nat → Int32)) (d : Nat) {h0 : zH} {n k : Nat} {den : Nat → zT} {G : Nat → Int32} {τ : zT} {kk a b c e : Int32} (hO : tOK h0 n k den G) (hn : n < 719) (hr : rw_C kk a b c e den (n + 1) τ) {P : zP} (hP : ∀ (r : Option Value) (h' : zH), (∃ t n' den', r = some (.int (nI t)) ∧ 0 < t ∧ t ≤ n' ∧ den' t = τ ∧ tOK h' n' k den' G ∧ n ≤ n' ∧ n' ≤ n + 1 ∧ (∀ u, 0 < u → u ≤ n → den' u = den u) ∧ fr 1 10 h0 h' ∧ (n' = n ∨ t = n + 1)) → P r h') : zMt zTab sc (d + 2) 53 [.ref 1, .int kk, .int a, .int b, .int c, .int e] h0 0 0 P := by
  obtain ⟨T, hS, hI, hG⟩ := hO
  obtain ⟨j, hj, hbj⟩ := bkt_in kk a b c e
  have hS0 := hS
  obtain ⟨e1, e2, e3, e4, e5, e6, e7, e8, e9, e10⟩ := hS
  have v1 : vp_in (nI j) 128 := vp_in_nI hj (by decide)
  have v2 : (nI j).toNatClampNeg = j := nI_clamp (by omega)
  refine zM_start (r := r_Te_make) (cd := k_Te_make) (L0 := [some (.ref 1), some (.int kk), some (.int a), some (.int b), some (.int c), some (.int e), none, none, none]) rfl rfl rfl rfl rfl ?_
  (repeat (refine zS_one rfl ?_; simp (disch := (first | decide | assumption | omega)) only [i_push, i_null, i_ild, i_ald, i_ist, i_ast, i_inc, i_bin, i_div, i_un, i_dup, i_pop, i_dup2, i_if, i_icmp, i_nul, i_nnl, i_goto, i_getf, i_putf, i_gets, i_nald, i_nast, i_aald, i_aast, i_alen, i_new, i_newa, i_newq, i_math, i_oini, i_iret, i_zret, i_aret, i_vret, z_fit, List.getElem?_cons_zero, List.getElem?_cons_succ, List.set_cons_zero, List.set_cons_succ, Nat.reduceAdd, Nat.reduceLT, Nat.reduceLeDiff, Nat.reduceEqDiff, Nat.zero_lt_succ, Value.category, true_and, or_true, true_or, and_true, false_implies, true_implies, not_false_eq_true, not_true_eq_false, List.map_cons, List.map_nil, List.sum_cons, List.sum_nil, va_up_eq, bx_uu, va_up_lit, List.length_cons, List.length_nil, List.drop_succ_cons, List.drop_zero, Option.toList_some, Option.toList_none, List.cons_append, List.nil_append]))
  (try refine zS_one rfl ?_)
  refine r_callS (c_bucketOf sc d h0 kk a b c e) rfl rfl rfl rfl (Nat.le_refl _) (Nat.le_refl _) ?_
  rintro r h' ⟨rfl, rfl⟩
  -- behind the loop: no row is this one
  have hend : (∀ u, 0 < u → u ≤ n → ¬ (T 0 u = kk ∧ T 1 u = a ∧ T 2 u = b ∧ T 3 u = c ∧ T 4 u = e)) → ∀ x i : Int32, zS (zMt zTab sc (d + 1), (0, 0), sc) k_Te_make P (112, [some (.ref 1), some (.int kk), some (.int a), some (.int b), some (.int c), some (.int e), some (.int (nI j)), some (.int x), some (.int i)], [], h', 0, 0) := by
    intro hno x i
    have w1 : nI (n + 1) < 720 := by rw [c720]; exact nI_lt (by omega) (by decide)
    have w2 := in720 (t := n + 1) (by omega)
    have w3 := cl720 (t := n + 1) (by omega)
    (repeat (refine zS_one rfl ?_; simp (disch := (first | decide | assumption | omega)) only [i_push, i_null, i_ild, i_ald, i_ist, i_ast, i_inc, i_bin, i_div, i_un, i_dup, i_pop, i_dup2, i_if, i_icmp, i_nul, i_nnl, i_goto, i_getf, i_putf, i_gets, i_nald, i_nast, i_aald, i_aast, i_alen, i_new, i_newa, i_newq, i_math, i_oini, i_iret, i_zret, i_aret, i_vret, z_fit, List.getElem?_cons_zero, List.getElem?_cons_succ, List.set_cons_zero, List.set_cons_succ, Nat.reduceAdd, Nat.reduceLT, Nat.reduceLeDiff, Nat.reduceEqDiff, Nat.zero_lt_succ, Value.category, true_and, or_true, true_or, and_true, false_implies, true_implies, not_false_eq_true, not_true_eq_false, List.map_cons, List.map_nil, List.sum_cons, List.sum_nil, va_up_eq, bx_uu, va_up_lit, List.length_cons, List.length_nil, List.drop_succ_cons, List.drop_zero, Option.toList_some, Option.toList_none, List.cons_append, List.nil_append, e1, e2, e3, e4, e5, e6, e7, e8, e9, e10, nI_1', w1, w2, w3]))
    have hrow : rw_C (mkT T (n + 1) kk a b c e 0 (n + 1)) (mkT T (n + 1) kk a b c e 1 (n + 1)) (mkT T (n + 1) kk a b c e 2 (n + 1)) (mkT T (n + 1) kk a b c e 3 (n + 1)) (mkT T (n + 1) kk a b c e 4 (n + 1)) den (n + 1) τ := by
      show rw_C (upd (T 0) (n + 1) kk (n + 1)) (upd (T 1) (n + 1) a (n + 1)) (upd (T 2) (n + 1) b (n + 1)) (upd (T 3) (n + 1) c (n + 1)) (upd (T 4) (n + 1) e (n + 1)) _ _ _
      rw [upd_s, upd_s, upd_s, upd_s, upd_s]
      exact hr
    refine r_callV (c_judged sc d (T := mkT T (n + 1) kk a b c e) (n := n + 1) (k := k) (t := n + 1) (den := den) (τ := τ) ⟨rfl, rfl, rfl, rfl, rfl, rfl, e7, e8, e9, e10⟩ (by omega) hrow hI.2.2.1) rfl rfl rfl rfl rfl (Nat.le_refl _) (Nat.le_refl _) ?_
    rintro r h2 ⟨rfl, v, rfl, hv⟩
    have hv1 : v &&& 1 = v := by rcases kv01 hv with rfl | rfl <;> decide
    (repeat (refine zS_one rfl ?_; simp (disch := (first | decide | assumption | omega)) only [i_push, i_null, i_ild, i_ald, i_ist, i_ast, i_inc, i_bin, i_div, i_un, i_dup, i_pop, i_dup2, i_if, i_icmp, i_nul, i_nnl, i_goto, i_getf, i_putf, i_gets, i_nald, i_nast, i_aald, i_aast, i_alen, i_new, i_newa, i_newq, i_math, i_oini, i_iret, i_zret, i_aret, i_vret, z_fit, List.getElem?_cons_zero, List.getElem?_cons_succ, List.set_cons_zero, List.set_cons_succ, Nat.reduceAdd, Nat.reduceLT, Nat.reduceLeDiff, Nat.reduceEqDiff, Nat.zero_lt_succ, Value.category, true_and, or_true, true_or, and_true, false_implies, true_implies, not_false_eq_true, not_true_eq_false, List.map_cons, List.map_nil, List.sum_cons, List.sum_nil, va_up_eq, bx_uu, va_up_lit, List.length_cons, List.length_nil, List.drop_succ_cons, List.drop_zero, Option.toList_some, Option.toList_none, List.cons_append, List.nil_append, e1, e2, e3, e4, e5, e6, e7, e8, e9, e10, nI_1', w1, w2, w3, v1, v2, hv1, Option.toList_some, List.cons_append, List.nil_append]))
    refine hP _ _ ⟨n + 1, n + 1, _, rfl, by omega, Nat.le_refl _, if_pos rfl, ⟨mkT2 T (n + 1) kk a b c e v j, ⟨rfl, rfl, rfl, rfl, rfl, rfl, rfl, rfl, rfl, e10⟩, TI_make hI hn hr hj hbj hno hv, hG⟩, by omega, Nat.le_refl _, fun u hu1 hu2 => if_neg (by omega), ⟨fun q hq => ?_, rfl⟩, Or.inr rfl⟩
    simp (disch := omega) only [va_up_lit]
  -- the loop
  have hloop : ∀ m x i : Nat, x < m → x ≤ n → i + x ≤ n → (x = 0 ∨ bkT T x = nI j) → (∀ u, x < u → u ≤ n → ¬ (T 0 u = kk ∧ T 1 u = a ∧ T 2 u = b ∧ T 3 u = c ∧ T 4 u = e)) → zS (zMt zTab sc (d + 1), (0, 0), sc) k_Te_make P (24, [some (.ref 1), some (.int kk), some (.int a), some (.int b), some (.int c), some (.int e), some (.int (nI j)), some (.int (nI x)), some (.int (nI i))], [], h', 0, 0) := by
    intro m
    induction m with
    | zero => intro x i hx; exact absurd hx (Nat.not_lt_zero _)
    | succ m ih =>
      intro x i hxm hxn hix hxb hno
      have w1 : ¬ 720 ≤ nI i := by rw [c720]; exact nI_ge (by omega) (by decide)
      (repeat (refine zS_one rfl ?_; simp (disch := (first | decide | assumption | omega)) only [i_push, i_null, i_ild, i_ald, i_ist, i_ast, i_inc, i_bin, i_div, i_un, i_dup, i_pop, i_dup2, i_if, i_icmp, i_nul, i_nnl, i_goto, i_getf, i_putf, i_gets, i_nald, i_nast, i_aald, i_aast, i_alen, i_new, i_newa, i_newq, i_math, i_oini, i_iret, i_zret, i_aret, i_vret, z_fit, List.getElem?_cons_zero, List.getElem?_cons_succ, List.set_cons_zero, List.set_cons_succ, Nat.reduceAdd, Nat.reduceLT, Nat.reduceLeDiff, Nat.reduceEqDiff, Nat.zero_lt_succ, Value.category, true_and, or_true, true_or, and_true, false_implies, true_implies, not_false_eq_true, not_true_eq_false, List.map_cons, List.map_nil, List.sum_cons, List.sum_nil, va_up_eq, bx_uu, va_up_lit, List.length_cons, List.length_nil, List.drop_succ_cons, List.drop_zero, Option.toList_some, Option.toList_none, List.cons_append, List.nil_append, w1]))
      by_cases hx0 : x = 0
      · subst hx0
        refine ⟨fun _ => hend (fun u hu1 hu2 => hno u hu1 hu2) _ _, fun q => absurd nI_0 q⟩
      · have w2 : ¬ nI x = 0 := nI_ne0 (by omega) (by omega)
        have w3 := in720 (t := x) (by omega)
        have w4 := cl720 (t := x) (by omega)
        have hnext : ¬ (T 0 x = kk ∧ T 1 x = a ∧ T 2 x = b ∧ T 3 x = c ∧ T 4 x = e) → zS (zMt zTab sc (d + 1), (0, 0), sc) k_Te_make P (97, [some (.ref 1), some (.int kk), some (.int a), some (.int b), some (.int c), some (.int e), some (.int (nI j)), some (.int (nI x)), some (.int (nI i))], [], h', 0, 0) := by
          intro hne
          obtain ⟨y, hyx, hy6, hyb, hyu⟩ := hI.2.2.2.2.2.2.2.2.1 x (by omega) hxn
          (iterate 7 (refine zS_one rfl ?_; simp (disch := (first | decide | assumption | omega)) only [i_push, i_null, i_ild, i_ald, i_ist, i_ast, i_inc, i_bin, i_div, i_un, i_dup, i_pop, i_dup2, i_if, i_icmp, i_nul, i_nnl, i_goto, i_getf, i_putf, i_gets, i_nald, i_nast, i_aald, i_aast, i_alen, i_new, i_newa, i_newq, i_math, i_oini, i_iret, i_zret, i_aret, i_vret, z_fit, List.getElem?_cons_zero, List.getElem?_cons_succ, List.set_cons_zero, List.set_cons_succ, Nat.reduceAdd, Nat.reduceLT, Nat.reduceLeDiff, Nat.reduceEqDiff, Nat.zero_lt_succ, Value.category, true_and, or_true, true_or, and_true, false_implies, true_implies, not_false_eq_true, not_true_eq_false, List.map_cons, List.map_nil, List.sum_cons, List.sum_nil, va_up_eq, bx_uu, va_up_lit, List.length_cons, List.length_nil, List.drop_succ_cons, List.drop_zero, Option.toList_some, Option.toList_none, List.cons_append, List.nil_append, e1, e8, w3, w4, hy6, nI_1']))
          refine ih y (i + 1) (by omega) (by omega) (by omega) ?_ (fun u hu1 hu2 => ?_)
          · by_cases hy0 : y = 0
            · exact Or.inl hy0
            · exact Or.inr ((hyb.resolve_left hy0).trans (hxb.resolve_left hx0))
          · by_cases hux : u = x
            · subst hux
              exact hne
            · by_cases hux2 : u < x
              · intro hq
                refine hyu u hu1 hux2 ?_
                rw [hxb.resolve_left hx0]
                unfold bkT
                rw [hq.1, hq.2.1, hq.2.2.1, hq.2.2.2.1, hq.2.2.2.2]
                exact hbj
              · exact hno u (by omega) hu2
        refine ⟨fun q => absurd q w2, fun _ => ?_⟩
        (repeat (refine zS_one rfl ?_; simp (disch := (first | decide | assumption | omega)) only [i_push, i_null, i_ild, i_ald, i_ist, i_ast, i_inc, i_bin, i_div, i_un, i_dup, i_pop, i_dup2, i_if, i_icmp, i_nul, i_nnl, i_goto, i_getf, i_putf, i_gets, i_nald, i_nast, i_aald, i_aast, i_alen, i_new, i_newa, i_newq, i_math, i_oini, i_iret, i_zret, i_aret, i_vret, z_fit, List.getElem?_cons_zero, List.getElem?_cons_succ, List.set_cons_zero, List.set_cons_succ, Nat.reduceAdd, Nat.reduceLT, Nat.reduceLeDiff, Nat.reduceEqDiff, Nat.zero_lt_succ, Value.category, true_and, or_true, true_or, and_true, false_implies, true_implies, not_false_eq_true, not_true_eq_false, List.map_cons, List.map_nil, List.sum_cons, List.sum_nil, va_up_eq, bx_uu, va_up_lit, List.length_cons, List.length_nil, List.drop_succ_cons, List.drop_zero, Option.toList_some, Option.toList_none, List.cons_append, List.nil_append, e1, e2, e3, e4, e5, e6, w3, w4]))
        refine ⟨fun q => hnext (fun z => q z.1), fun q1 => ?_⟩
        (repeat (refine zS_one rfl ?_; simp (disch := (first | decide | assumption | omega)) only [i_push, i_null, i_ild, i_ald, i_ist, i_ast, i_inc, i_bin, i_div, i_un, i_dup, i_pop, i_dup2, i_if, i_icmp, i_nul, i_nnl, i_goto, i_getf, i_putf, i_gets, i_nald, i_nast, i_aald, i_aast, i_alen, i_new, i_newa, i_newq, i_math, i_oini, i_iret, i_zret, i_aret, i_vret, z_fit, List.getElem?_cons_zero, List.getElem?_cons_succ, List.set_cons_zero, List.set_cons_succ, Nat.reduceAdd, Nat.reduceLT, Nat.reduceLeDiff, Nat.reduceEqDiff, Nat.zero_lt_succ, Value.category, true_and, or_true, true_or, and_true, false_implies, true_implies, not_false_eq_true, not_true_eq_false, List.map_cons, List.map_nil, List.sum_cons, List.sum_nil, va_up_eq, bx_uu, va_up_lit, List.length_cons, List.length_nil, List.drop_succ_cons, List.drop_zero, Option.toList_some, Option.toList_none, List.cons_append, List.nil_append, e1, e2, e3, e4, e5, e6, w3, w4]))
        refine ⟨fun q => hnext (fun z => q z.2.1), fun q2 => ?_⟩
        (repeat (refine zS_one rfl ?_; simp (disch := (first | decide | assumption | omega)) only [i_push, i_null, i_ild, i_ald, i_ist, i_ast, i_inc, i_bin, i_div, i_un, i_dup, i_pop, i_dup2, i_if, i_icmp, i_nul, i_nnl, i_goto, i_getf, i_putf, i_gets, i_nald, i_nast, i_aald, i_aast, i_alen, i_new, i_newa, i_newq, i_math, i_oini, i_iret, i_zret, i_aret, i_vret, z_fit, List.getElem?_cons_zero, List.getElem?_cons_succ, List.set_cons_zero, List.set_cons_succ, Nat.reduceAdd, Nat.reduceLT, Nat.reduceLeDiff, Nat.reduceEqDiff, Nat.zero_lt_succ, Value.category, true_and, or_true, true_or, and_true, false_implies, true_implies, not_false_eq_true, not_true_eq_false, List.map_cons, List.map_nil, List.sum_cons, List.sum_nil, va_up_eq, bx_uu, va_up_lit, List.length_cons, List.length_nil, List.drop_succ_cons, List.drop_zero, Option.toList_some, Option.toList_none, List.cons_append, List.nil_append, e1, e2, e3, e4, e5, e6, w3, w4]))
        refine ⟨fun q => hnext (fun z => q z.2.2.1), fun q3 => ?_⟩
        (repeat (refine zS_one rfl ?_; simp (disch := (first | decide | assumption | omega)) only [i_push, i_null, i_ild, i_ald, i_ist, i_ast, i_inc, i_bin, i_div, i_un, i_dup, i_pop, i_dup2, i_if, i_icmp, i_nul, i_nnl, i_goto, i_getf, i_putf, i_gets, i_nald, i_nast, i_aald, i_aast, i_alen, i_new, i_newa, i_newq, i_math, i_oini, i_iret, i_zret, i_aret, i_vret, z_fit, List.getElem?_cons_zero, List.getElem?_cons_succ, List.set_cons_zero, List.set_cons_succ, Nat.reduceAdd, Nat.reduceLT, Nat.reduceLeDiff, Nat.reduceEqDiff, Nat.zero_lt_succ, Value.category, true_and, or_true, true_or, and_true, false_implies, true_implies, not_false_eq_true, not_true_eq_false, List.map_cons, List.map_nil, List.sum_cons, List.sum_nil, va_up_eq, bx_uu, va_up_lit, List.length_cons, List.length_nil, List.drop_succ_cons, List.drop_zero, Option.toList_some, Option.toList_none, List.cons_append, List.nil_append, e1, e2, e3, e4, e5, e6, w3, w4]))
        refine ⟨fun q => hnext (fun z => q z.2.2.2.1), fun q4 => ?_⟩
        (repeat (refine zS_one rfl ?_; simp (disch := (first | decide | assumption | omega)) only [i_push, i_null, i_ild, i_ald, i_ist, i_ast, i_inc, i_bin, i_div, i_un, i_dup, i_pop, i_dup2, i_if, i_icmp, i_nul, i_nnl, i_goto, i_getf, i_putf, i_gets, i_nald, i_nast, i_aald, i_aast, i_alen, i_new, i_newa, i_newq, i_math, i_oini, i_iret, i_zret, i_aret, i_vret, z_fit, List.getElem?_cons_zero, List.getElem?_cons_succ, List.set_cons_zero, List.set_cons_succ, Nat.reduceAdd, Nat.reduceLT, Nat.reduceLeDiff, Nat.reduceEqDiff, Nat.zero_lt_succ, Value.category, true_and, or_true, true_or, and_true, false_implies, true_implies, not_false_eq_true, not_true_eq_false, List.map_cons, List.map_nil, List.sum_cons, List.sum_nil, va_up_eq, bx_uu, va_up_lit, List.length_cons, List.length_nil, List.drop_succ_cons, List.drop_zero, Option.toList_some, Option.toList_none, List.cons_append, List.nil_append, e1, e2, e3, e4, e5, e6, w3, w4]))
        refine ⟨fun q => hnext (fun z => q z.2.2.2.2), fun q5 => ?_⟩
        (repeat (refine zS_one rfl ?_; simp (disch := (first | decide | assumption | omega)) only [i_push, i_null, i_ild, i_ald, i_ist, i_ast, i_inc, i_bin, i_div, i_un, i_dup, i_pop, i_dup2, i_if, i_icmp, i_nul, i_nnl, i_goto, i_getf, i_putf, i_gets, i_nald, i_nast, i_aald, i_aast, i_alen, i_new, i_newa, i_newq, i_math, i_oini, i_iret, i_zret, i_aret, i_vret, z_fit, List.getElem?_cons_zero, List.getElem?_cons_succ, List.set_cons_zero, List.set_cons_succ, Nat.reduceAdd, Nat.reduceLT, Nat.reduceLeDiff, Nat.reduceEqDiff, Nat.zero_lt_succ, Value.category, true_and, or_true, true_or, and_true, false_implies, true_implies, not_false_eq_true, not_true_eq_false, List.map_cons, List.map_nil, List.sum_cons, List.sum_nil, va_up_eq, bx_uu, va_up_lit, List.length_cons, List.length_nil, List.drop_succ_cons, List.drop_zero, Option.toList_some, Option.toList_none, List.cons_append, List.nil_append]))
        have hrx := hI.2.2.2.2.2.1 x (by omega) hxn
        rw [q1, q2, q3, q4, q5] at hrx
        exact hP _ _ ⟨x, n, den, rfl, by omega, hxn, rw_C_fun (by omega) (by omega) hrx hr, ⟨T, hS0, hI, hG⟩, Nat.le_refl _, by omega, fun _ _ _ => rfl, fr.rf, Or.inl rfl⟩
  obtain ⟨x, hx, hx7, hxb, hxu⟩ := hI.2.2.2.2.2.2.2.2.2 j hj
  rw [hbj]
  (iterate 8 (refine zS_one rfl ?_; simp (disch := (first | decide | assumption | omega)) only [i_push, i_null, i_ild, i_ald, i_ist, i_ast, i_inc, i_bin, i_div, i_un, i_dup, i_pop, i_dup2, i_if, i_icmp, i_nul, i_nnl, i_goto, i_getf, i_putf, i_gets, i_nald, i_nast, i_aald, i_aast, i_alen, i_new, i_newa, i_newq, i_math, i_oini, i_iret, i_zret, i_aret, i_vret, z_fit, List.getElem?_cons_zero, List.getElem?_cons_succ, List.set_cons_zero, List.set_cons_succ, Nat.reduceAdd, Nat.reduceLT, Nat.reduceLeDiff, Nat.reduceEqDiff, Nat.zero_lt_succ, Value.category, true_and, or_true, true_or, and_true, false_implies, true_implies, not_false_eq_true, not_true_eq_false, List.map_cons, List.map_nil, List.sum_cons, List.sum_nil, va_up_eq, bx_uu, va_up_lit, List.length_cons, List.length_nil, List.drop_succ_cons, List.drop_zero, Option.toList_some, Option.toList_none, List.cons_append, List.nil_append, e1, e9, v1, v2, hx7]))
  exact hloop (x + 1) x 0 (by omega) hx (by omega) hxb (fun u hu1 hu2 hq => hxu u hu1 hu2 (by unfold bkT; rw [hq.1, hq.2.1, hq.2.2.1, hq.2.2.2.1, hq.2.2.2.2]; exact hbj))
theorem c_make (sc : Nat × (Nat → Int32)) (d : Nat) {h0 : zH} {n k : Nat} {den : Nat → zT} {G : Nat → Int32} {τ : zT} {kk a b c e : Int32} (hO : tOK h0 n k den G) (hn : n < 719) (hr : rw_C kk a b c e den (n + 1) τ) : zMt zTab sc (d + 2) 53 [.ref 1, .int kk, .int a, .int b, .int c, .int e] h0 0 0 (fun r h' => ∃ t n' den', r = some (.int (nI t)) ∧ 0 < t ∧ t ≤ n' ∧ den' t = τ ∧ tOK h' n' k den' G ∧ n ≤ n' ∧ n' ≤ n + 1 ∧ (∀ u, 0 < u → u ≤ n → den' u = den u) ∧ fr 1 10 h0 h') := by
  refine c_make1 sc d hO hn hr ?_
  rintro r h' ⟨t, n', den', e1, e2, e3, e4, e5, e6, e7, e8, e9, -⟩
  exact ⟨t, n', den', e1, e2, e3, e4, e5, e6, e7, e8, e9⟩
