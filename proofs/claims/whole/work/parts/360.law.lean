section LW
variable {L : Nat} {xs : Nat → Int32} {h : zH} {i uc us : Nat}
def lwZ (L : Nat) (xs : Nat → Int32) (pc i : Nat) (h : zH) (uc us : Nat) : Prop := zS (zMt zTab (L, xs) 8, (600000, 7302250), (L, xs)) k_La_law (fun r _ => r = some (.int 1)) (pc, [some (.retAddr 0), some (.ref 0), some (.ref 15), some (.int (nI i))], [], h, uc, us)
set_option maxHeartbeats 4000000 in
theorem l_write (hi : i + 5 < L) (hL : L ≤ 3072) (hR : RLe h) (hc : uc ≤ 600000) (hs : us ≤ 7302250) (cont : ∀ h', RLe h' → lwZ L xs 747 i h' uc us) : lwZ L xs 203 i h uc us := by
  obtain ⟨ns, n1, made, den1, n2, den2, G, m, ps, V, S, A, D, hR⟩ := hR
  have hb := hR.bd
  unfold lwZ at cont ⊢
  have w7 : ¬ (0 : Nat) = 1 := by decide
  have n1 : nI i + 1 = nI (i + 1) := nI_add i 1
  have v1 : vp_in (nI (i + 1)) L := vp_in_nI (by omega) (by omega)
  have c1 : (nI (i + 1)).toNatClampNeg = i + 1 := nI_clamp (by omega)
  have n2 : nI i + 2 = nI (i + 2) := nI_add i 2
  have v2 : vp_in (nI (i + 2)) L := vp_in_nI (by omega) (by omega)
  have c2 : (nI (i + 2)).toNatClampNeg = i + 2 := nI_clamp (by omega)
  (repeat (refine zS_one rfl ?_; simp (disch := (first | decide | assumption | omega)) only [i_push, i_null, i_ild, i_ald, i_ist, i_ast, i_inc, i_bin, i_div, i_un, i_dup, i_pop, i_dup2, i_if, i_icmp, i_nul, i_nnl, i_goto, i_getf, i_putf, i_gets, i_nald, i_nast, i_aald, i_aast, i_alen, i_new, i_newa, i_newq, i_math, i_oini, i_iret, i_zret, i_aret, i_vret, z_fit, List.getElem?_cons_zero, List.getElem?_cons_succ, List.set_cons_zero, List.set_cons_succ, Nat.reduceAdd, Nat.reduceLT, Nat.reduceLeDiff, Nat.reduceEqDiff, Nat.zero_lt_succ, Value.category, true_and, or_true, true_or, and_true, false_implies, true_implies, not_false_eq_true, not_true_eq_false, List.map_cons, List.map_nil, List.sum_cons, List.sum_nil, va_up_eq, bx_uu, va_up_lit, List.length_cons, List.length_nil, List.drop_succ_cons, List.drop_zero, Option.toList_some, Option.toList_none, List.cons_append, List.nil_append, w7, false_and, or_false, n1, v1, c1, n2, v2, c2]))
  (try refine zS_one rfl ?_)
  refine r_callV (c_Stwrite (L, xs) 0 hR.1 hR.pm (by omega) (xs (i + 1)) (xs (i + 2)) (fun s hs _ z1 z2 => by have := hR.md hs z1 z2; omega)) rfl rfl rfl rfl hR.1.1 hc hs ?_
  intro r h1 hq
  obtain ⟨v, P2, rfl, ⟨fs, hfs⟩, hz, hk⟩ := j_write (sc := (L, xs)) hR hq
  (repeat (refine zS_one rfl ?_; simp (disch := (first | decide | assumption | omega)) only [i_push, i_null, i_ild, i_ald, i_ist, i_ast, i_inc, i_bin, i_div, i_un, i_dup, i_pop, i_dup2, i_if, i_icmp, i_nul, i_nnl, i_goto, i_getf, i_putf, i_gets, i_nald, i_nast, i_aald, i_aast, i_alen, i_new, i_newa, i_newq, i_math, i_oini, i_iret, i_zret, i_aret, i_vret, z_fit, List.getElem?_cons_zero, List.getElem?_cons_succ, List.set_cons_zero, List.set_cons_succ, Nat.reduceAdd, Nat.reduceLT, Nat.reduceLeDiff, Nat.reduceEqDiff, Nat.zero_lt_succ, Value.category, true_and, or_true, true_or, and_true, false_implies, true_implies, not_false_eq_true, not_true_eq_false, List.map_cons, List.map_nil, List.sum_cons, List.sum_nil, va_up_eq, bx_uu, va_up_lit, List.length_cons, List.length_nil, List.drop_succ_cons, List.drop_zero, Option.toList_some, Option.toList_none, List.cons_append, List.nil_append, w7, false_and, or_false, n1, v1, c1, n2, v2, c2]))
  (try refine zS_one rfl ?_)
  refine r_callV hz rfl rfl rfl rfl hfs hc hs ?_
  intro r2 h2 hp
  obtain ⟨rfl, hR2⟩ := hk r2 h2 hp
  have := cont h2 hR2
  (iterate 1 (refine zS_one rfl ?_; simp (disch := (first | decide | assumption | omega)) only [i_push, i_null, i_ild, i_ald, i_ist, i_ast, i_inc, i_bin, i_div, i_un, i_dup, i_pop, i_dup2, i_if, i_icmp, i_nul, i_nnl, i_goto, i_getf, i_putf, i_gets, i_nald, i_nast, i_aald, i_aast, i_alen, i_new, i_newa, i_newq, i_math, i_oini, i_iret, i_zret, i_aret, i_vret, z_fit, List.getElem?_cons_zero, List.getElem?_cons_succ, List.set_cons_zero, List.set_cons_succ, Nat.reduceAdd, Nat.reduceLT, Nat.reduceLeDiff, Nat.reduceEqDiff, Nat.zero_lt_succ, Value.category, true_and, or_true, true_or, and_true, false_implies, true_implies, not_false_eq_true, not_true_eq_false, List.map_cons, List.map_nil, List.sum_cons, List.sum_nil, va_up_eq, bx_uu, va_up_lit, List.length_cons, List.length_nil, List.drop_succ_cons, List.drop_zero, Option.toList_some, Option.toList_none, List.cons_append, List.nil_append, w7]))
  exact this
set_option maxHeartbeats 4000000 in
theorem l_send (hi : i + 5 < L) (hL : L ≤ 3072) (hR : RLe h) (hc : uc ≤ 600000) (hs : us ≤ 7302250) (cont : ∀ h', RLe h' → lwZ L xs 747 i h' uc us) : lwZ L xs 236 i h uc us := by
  obtain ⟨ns, n1, made, den1, n2, den2, G, m, ps, V, S, A, D, hR⟩ := hR
  have hb := hR.bd
  unfold lwZ at cont ⊢
  have w7 : ¬ (0 : Nat) = 1 := by decide
  have n1 : nI i + 1 = nI (i + 1) := nI_add i 1
  have v1 : vp_in (nI (i + 1)) L := vp_in_nI (by omega) (by omega)
  have c1 : (nI (i + 1)).toNatClampNeg = i + 1 := nI_clamp (by omega)
  have n2 : nI i + 2 = nI (i + 2) := nI_add i 2
  have v2 : vp_in (nI (i + 2)) L := vp_in_nI (by omega) (by omega)
  have c2 : (nI (i + 2)).toNatClampNeg = i + 2 := nI_clamp (by omega)
  (repeat (refine zS_one rfl ?_; simp (disch := (first | decide | assumption | omega)) only [i_push, i_null, i_ild, i_ald, i_ist, i_ast, i_inc, i_bin, i_div, i_un, i_dup, i_pop, i_dup2, i_if, i_icmp, i_nul, i_nnl, i_goto, i_getf, i_putf, i_gets, i_nald, i_nast, i_aald, i_aast, i_alen, i_new, i_newa, i_newq, i_math, i_oini, i_iret, i_zret, i_aret, i_vret, z_fit, List.getElem?_cons_zero, List.getElem?_cons_succ, List.set_cons_zero, List.set_cons_succ, Nat.reduceAdd, Nat.reduceLT, Nat.reduceLeDiff, Nat.reduceEqDiff, Nat.zero_lt_succ, Value.category, true_and, or_true, true_or, and_true, false_implies, true_implies, not_false_eq_true, not_true_eq_false, List.map_cons, List.map_nil, List.sum_cons, List.sum_nil, va_up_eq, bx_uu, va_up_lit, List.length_cons, List.length_nil, List.drop_succ_cons, List.drop_zero, Option.toList_some, Option.toList_none, List.cons_append, List.nil_append, w7, false_and, or_false, n1, v1, c1, n2, v2, c2]))
  (try refine zS_one rfl ?_)
  refine r_callV (c_Stsend (L, xs) 3 hR.1 hR.pm (by omega) (xs (i + 1)) (xs (i + 2))) rfl rfl rfl rfl hR.1.1 hc hs ?_
  intro r h1 hq
  obtain ⟨v, P2, rfl, ⟨fs, hfs⟩, hz, hk⟩ := j_send (sc := (L, xs)) hR hq
  (repeat (refine zS_one rfl ?_; simp (disch := (first | decide | assumption | omega)) only [i_push, i_null, i_ild, i_ald, i_ist, i_ast, i_inc, i_bin, i_div, i_un, i_dup, i_pop, i_dup2, i_if, i_icmp, i_nul, i_nnl, i_goto, i_getf, i_putf, i_gets, i_nald, i_nast, i_aald, i_aast, i_alen, i_new, i_newa, i_newq, i_math, i_oini, i_iret, i_zret, i_aret, i_vret, z_fit, List.getElem?_cons_zero, List.getElem?_cons_succ, List.set_cons_zero, List.set_cons_succ, Nat.reduceAdd, Nat.reduceLT, Nat.reduceLeDiff, Nat.reduceEqDiff, Nat.zero_lt_succ, Value.category, true_and, or_true, true_or, and_true, false_implies, true_implies, not_false_eq_true, not_true_eq_false, List.map_cons, List.map_nil, List.sum_cons, List.sum_nil, va_up_eq, bx_uu, va_up_lit, List.length_cons, List.length_nil, List.drop_succ_cons, List.drop_zero, Option.toList_some, Option.toList_none, List.cons_append, List.nil_append, w7, false_and, or_false, n1, v1, c1, n2, v2, c2]))
  (try refine zS_one rfl ?_)
  refine r_callV hz rfl rfl rfl rfl hfs hc hs ?_
  intro r2 h2 hp
  obtain ⟨rfl, hR2⟩ := hk r2 h2 hp
  have := cont h2 hR2
  (iterate 1 (refine zS_one rfl ?_; simp (disch := (first | decide | assumption | omega)) only [i_push, i_null, i_ild, i_ald, i_ist, i_ast, i_inc, i_bin, i_div, i_un, i_dup, i_pop, i_dup2, i_if, i_icmp, i_nul, i_nnl, i_goto, i_getf, i_putf, i_gets, i_nald, i_nast, i_aald, i_aast, i_alen, i_new, i_newa, i_newq, i_math, i_oini, i_iret, i_zret, i_aret, i_vret, z_fit, List.getElem?_cons_zero, List.getElem?_cons_succ, List.set_cons_zero, List.set_cons_succ, Nat.reduceAdd, Nat.reduceLT, Nat.reduceLeDiff, Nat.reduceEqDiff, Nat.zero_lt_succ, Value.category, true_and, or_true, true_or, and_true, false_implies, true_implies, not_false_eq_true, not_true_eq_false, List.map_cons, List.map_nil, List.sum_cons, List.sum_nil, va_up_eq, bx_uu, va_up_lit, List.length_cons, List.length_nil, List.drop_succ_cons, List.drop_zero, Option.toList_some, Option.toList_none, List.cons_append, List.nil_append, w7]))
  exact this
set_option maxHeartbeats 4000000 in
theorem l_deliver (hi : i + 5 < L) (hL : L ≤ 3072) (hR : RLe h) (hc : uc ≤ 600000) (hs : us ≤ 7302250) (cont : ∀ h', RLe h' → lwZ L xs 747 i h' uc us) : lwZ L xs 269 i h uc us := by
  obtain ⟨ns, n1, made, den1, n2, den2, G, m, ps, V, S, A, D, hR⟩ := hR
  have hb := hR.bd
  unfold lwZ at cont ⊢
  have w7 : ¬ (0 : Nat) = 1 := by decide
  have n1 : nI i + 1 = nI (i + 1) := nI_add i 1
  have v1 : vp_in (nI (i + 1)) L := vp_in_nI (by omega) (by omega)
  have c1 : (nI (i + 1)).toNatClampNeg = i + 1 := nI_clamp (by omega)
  have n2 : nI i + 2 = nI (i + 2) := nI_add i 2
  have v2 : vp_in (nI (i + 2)) L := vp_in_nI (by omega) (by omega)
  have c2 : (nI (i + 2)).toNatClampNeg = i + 2 := nI_clamp (by omega)
  (repeat (refine zS_one rfl ?_; simp (disch := (first | decide | assumption | omega)) only [i_push, i_null, i_ild, i_ald, i_ist, i_ast, i_inc, i_bin, i_div, i_un, i_dup, i_pop, i_dup2, i_if, i_icmp, i_nul, i_nnl, i_goto, i_getf, i_putf, i_gets, i_nald, i_nast, i_aald, i_aast, i_alen, i_new, i_newa, i_newq, i_math, i_oini, i_iret, i_zret, i_aret, i_vret, z_fit, List.getElem?_cons_zero, List.getElem?_cons_succ, List.set_cons_zero, List.set_cons_succ, Nat.reduceAdd, Nat.reduceLT, Nat.reduceLeDiff, Nat.reduceEqDiff, Nat.zero_lt_succ, Value.category, true_and, or_true, true_or, and_true, false_implies, true_implies, not_false_eq_true, not_true_eq_false, List.map_cons, List.map_nil, List.sum_cons, List.sum_nil, va_up_eq, bx_uu, va_up_lit, List.length_cons, List.length_nil, List.drop_succ_cons, List.drop_zero, Option.toList_some, Option.toList_none, List.cons_append, List.nil_append, w7, false_and, or_false, n1, v1, c1, n2, v2, c2]))
  (try refine zS_one rfl ?_)
  refine r_callV (c_Stdeliver (L, xs) 0 hR.1 (by omega) (xs (i + 1)) (xs (i + 2))) rfl rfl rfl rfl hR.1.1 hc hs ?_
  intro r h1 hq
  obtain ⟨v, P2, rfl, ⟨fs, hfs⟩, hz, hk⟩ := j_deliver (sc := (L, xs)) hR hq
  (repeat (refine zS_one rfl ?_; simp (disch := (first | decide | assumption | omega)) only [i_push, i_null, i_ild, i_ald, i_ist, i_ast, i_inc, i_bin, i_div, i_un, i_dup, i_pop, i_dup2, i_if, i_icmp, i_nul, i_nnl, i_goto, i_getf, i_putf, i_gets, i_nald, i_nast, i_aald, i_aast, i_alen, i_new, i_newa, i_newq, i_math, i_oini, i_iret, i_zret, i_aret, i_vret, z_fit, List.getElem?_cons_zero, List.getElem?_cons_succ, List.set_cons_zero, List.set_cons_succ, Nat.reduceAdd, Nat.reduceLT, Nat.reduceLeDiff, Nat.reduceEqDiff, Nat.zero_lt_succ, Value.category, true_and, or_true, true_or, and_true, false_implies, true_implies, not_false_eq_true, not_true_eq_false, List.map_cons, List.map_nil, List.sum_cons, List.sum_nil, va_up_eq, bx_uu, va_up_lit, List.length_cons, List.length_nil, List.drop_succ_cons, List.drop_zero, Option.toList_some, Option.toList_none, List.cons_append, List.nil_append, w7, false_and, or_false, n1, v1, c1, n2, v2, c2]))
  (try refine zS_one rfl ?_)
  refine r_callV hz rfl rfl rfl rfl hfs hc hs ?_
  intro r2 h2 hp
  obtain ⟨rfl, hR2⟩ := hk r2 h2 hp
  have := cont h2 hR2
  (iterate 1 (refine zS_one rfl ?_; simp (disch := (first | decide | assumption | omega)) only [i_push, i_null, i_ild, i_ald, i_ist, i_ast, i_inc, i_bin, i_div, i_un, i_dup, i_pop, i_dup2, i_if, i_icmp, i_nul, i_nnl, i_goto, i_getf, i_putf, i_gets, i_nald, i_nast, i_aald, i_aast, i_alen, i_new, i_newa, i_newq, i_math, i_oini, i_iret, i_zret, i_aret, i_vret, z_fit, List.getElem?_cons_zero, List.getElem?_cons_succ, List.set_cons_zero, List.set_cons_succ, Nat.reduceAdd, Nat.reduceLT, Nat.reduceLeDiff, Nat.reduceEqDiff, Nat.zero_lt_succ, Value.category, true_and, or_true, true_or, and_true, false_implies, true_implies, not_false_eq_true, not_true_eq_false, List.map_cons, List.map_nil, List.sum_cons, List.sum_nil, va_up_eq, bx_uu, va_up_lit, List.length_cons, List.length_nil, List.drop_succ_cons, List.drop_zero, Option.toList_some, Option.toList_none, List.cons_append, List.nil_append, w7]))
  exact this
set_option maxHeartbeats 4000000 in
theorem l_splice (hi : i + 5 < L) (hL : L ≤ 3072) (hR : RLe h) (hc : uc ≤ 600000) (hs : us ≤ 7302250) (cont : ∀ h', RLe h' → lwZ L xs 747 i h' uc us) : lwZ L xs 302 i h uc us := by
  obtain ⟨ns, n1, made, den1, n2, den2, G, m, ps, V, S, A, D, hR⟩ := hR
  have hb := hR.bd
  unfold lwZ at cont ⊢
  have w7 : ¬ (0 : Nat) = 1 := by decide
  have n1 : nI i + 1 = nI (i + 1) := nI_add i 1
  have v1 : vp_in (nI (i + 1)) L := vp_in_nI (by omega) (by omega)
  have c1 : (nI (i + 1)).toNatClampNeg = i + 1 := nI_clamp (by omega)
  have n2 : nI i + 2 = nI (i + 2) := nI_add i 2
  have v2 : vp_in (nI (i + 2)) L := vp_in_nI (by omega) (by omega)
  have c2 : (nI (i + 2)).toNatClampNeg = i + 2 := nI_clamp (by omega)
  have n3 : nI i + 3 = nI (i + 3) := nI_add i 3
  have v3 : vp_in (nI (i + 3)) L := vp_in_nI (by omega) (by omega)
  have c3 : (nI (i + 3)).toNatClampNeg = i + 3 := nI_clamp (by omega)
  have n4 : nI i + 4 = nI (i + 4) := nI_add i 4
  have v4 : vp_in (nI (i + 4)) L := vp_in_nI (by omega) (by omega)
  have c4 : (nI (i + 4)).toNatClampNeg = i + 4 := nI_clamp (by omega)
  (repeat (refine zS_one rfl ?_; simp (disch := (first | decide | assumption | omega)) only [i_push, i_null, i_ild, i_ald, i_ist, i_ast, i_inc, i_bin, i_div, i_un, i_dup, i_pop, i_dup2, i_if, i_icmp, i_nul, i_nnl, i_goto, i_getf, i_putf, i_gets, i_nald, i_nast, i_aald, i_aast, i_alen, i_new, i_newa, i_newq, i_math, i_oini, i_iret, i_zret, i_aret, i_vret, z_fit, List.getElem?_cons_zero, List.getElem?_cons_succ, List.set_cons_zero, List.set_cons_succ, Nat.reduceAdd, Nat.reduceLT, Nat.reduceLeDiff, Nat.reduceEqDiff, Nat.zero_lt_succ, Value.category, true_and, or_true, true_or, and_true, false_implies, true_implies, not_false_eq_true, not_true_eq_false, List.map_cons, List.map_nil, List.sum_cons, List.sum_nil, va_up_eq, bx_uu, va_up_lit, List.length_cons, List.length_nil, List.drop_succ_cons, List.drop_zero, Option.toList_some, Option.toList_none, List.cons_append, List.nil_append, w7, false_and, or_false, n1, v1, c1, n2, v2, c2, n3, v3, c3, n4, v4, c4]))
  (try refine zS_one rfl ?_)
  refine r_callV (c_Stsplice (L, xs) 3 hR.1 hR.pm (xs (i + 1)) (xs (i + 2)) (xs (i + 3)) (xs (i + 4))) rfl rfl rfl rfl hR.1.1 hc hs ?_
  intro r h1 hq
  obtain ⟨v, P2, rfl, ⟨fs, hfs⟩, hz, hk⟩ := j_splice (sc := (L, xs)) hR hq
  (repeat (refine zS_one rfl ?_; simp (disch := (first | decide | assumption | omega)) only [i_push, i_null, i_ild, i_ald, i_ist, i_ast, i_inc, i_bin, i_div, i_un, i_dup, i_pop, i_dup2, i_if, i_icmp, i_nul, i_nnl, i_goto, i_getf, i_putf, i_gets, i_nald, i_nast, i_aald, i_aast, i_alen, i_new, i_newa, i_newq, i_math, i_oini, i_iret, i_zret, i_aret, i_vret, z_fit, List.getElem?_cons_zero, List.getElem?_cons_succ, List.set_cons_zero, List.set_cons_succ, Nat.reduceAdd, Nat.reduceLT, Nat.reduceLeDiff, Nat.reduceEqDiff, Nat.zero_lt_succ, Value.category, true_and, or_true, true_or, and_true, false_implies, true_implies, not_false_eq_true, not_true_eq_false, List.map_cons, List.map_nil, List.sum_cons, List.sum_nil, va_up_eq, bx_uu, va_up_lit, List.length_cons, List.length_nil, List.drop_succ_cons, List.drop_zero, Option.toList_some, Option.toList_none, List.cons_append, List.nil_append, w7, false_and, or_false, n1, v1, c1, n2, v2, c2, n3, v3, c3, n4, v4, c4]))
  (try refine zS_one rfl ?_)
  refine r_callV hz rfl rfl rfl rfl hfs hc hs ?_
  intro r2 h2 hp
  obtain ⟨rfl, hR2⟩ := hk r2 h2 hp
  have := cont h2 hR2
  (iterate 1 (refine zS_one rfl ?_; simp (disch := (first | decide | assumption | omega)) only [i_push, i_null, i_ild, i_ald, i_ist, i_ast, i_inc, i_bin, i_div, i_un, i_dup, i_pop, i_dup2, i_if, i_icmp, i_nul, i_nnl, i_goto, i_getf, i_putf, i_gets, i_nald, i_nast, i_aald, i_aast, i_alen, i_new, i_newa, i_newq, i_math, i_oini, i_iret, i_zret, i_aret, i_vret, z_fit, List.getElem?_cons_zero, List.getElem?_cons_succ, List.set_cons_zero, List.set_cons_succ, Nat.reduceAdd, Nat.reduceLT, Nat.reduceLeDiff, Nat.reduceEqDiff, Nat.zero_lt_succ, Value.category, true_and, or_true, true_or, and_true, false_implies, true_implies, not_false_eq_true, not_true_eq_false, List.map_cons, List.map_nil, List.sum_cons, List.sum_nil, va_up_eq, bx_uu, va_up_lit, List.length_cons, List.length_nil, List.drop_succ_cons, List.drop_zero, Option.toList_some, Option.toList_none, List.cons_append, List.nil_append, w7]))
  exact this
set_option maxHeartbeats 4000000 in
theorem l_replace (hi : i + 5 < L) (hL : L ≤ 3072) (hR : RLe h) (hc : uc ≤ 600000) (hs : us ≤ 7302250) (cont : ∀ h', RLe h' → lwZ L xs 747 i h' uc us) : lwZ L xs 355 i h uc us := by
  obtain ⟨ns, n1, made, den1, n2, den2, G, m, ps, V, S, A, D, hR⟩ := hR
  have hb := hR.bd
  unfold lwZ at cont ⊢
  have w7 : ¬ (0 : Nat) = 1 := by decide
  have n1 : nI i + 1 = nI (i + 1) := nI_add i 1
  have v1 : vp_in (nI (i + 1)) L := vp_in_nI (by omega) (by omega)
  have c1 : (nI (i + 1)).toNatClampNeg = i + 1 := nI_clamp (by omega)
  have n2 : nI i + 2 = nI (i + 2) := nI_add i 2
  have v2 : vp_in (nI (i + 2)) L := vp_in_nI (by omega) (by omega)
  have c2 : (nI (i + 2)).toNatClampNeg = i + 2 := nI_clamp (by omega)
  have n3 : nI i + 3 = nI (i + 3) := nI_add i 3
  have v3 : vp_in (nI (i + 3)) L := vp_in_nI (by omega) (by omega)
  have c3 : (nI (i + 3)).toNatClampNeg = i + 3 := nI_clamp (by omega)
  (repeat (refine zS_one rfl ?_; simp (disch := (first | decide | assumption | omega)) only [i_push, i_null, i_ild, i_ald, i_ist, i_ast, i_inc, i_bin, i_div, i_un, i_dup, i_pop, i_dup2, i_if, i_icmp, i_nul, i_nnl, i_goto, i_getf, i_putf, i_gets, i_nald, i_nast, i_aald, i_aast, i_alen, i_new, i_newa, i_newq, i_math, i_oini, i_iret, i_zret, i_aret, i_vret, z_fit, List.getElem?_cons_zero, List.getElem?_cons_succ, List.set_cons_zero, List.set_cons_succ, Nat.reduceAdd, Nat.reduceLT, Nat.reduceLeDiff, Nat.reduceEqDiff, Nat.zero_lt_succ, Value.category, true_and, or_true, true_or, and_true, false_implies, true_implies, not_false_eq_true, not_true_eq_false, List.map_cons, List.map_nil, List.sum_cons, List.sum_nil, va_up_eq, bx_uu, va_up_lit, List.length_cons, List.length_nil, List.drop_succ_cons, List.drop_zero, Option.toList_some, Option.toList_none, List.cons_append, List.nil_append, w7, false_and, or_false, n1, v1, c1, n2, v2, c2, n3, v3, c3]))
  (try refine zS_one rfl ?_)
  refine r_callV (c_Streplace (L, xs) 3 hR.1 hR.pm (by omega) (xs (i + 1)) (xs (i + 2)) (xs (i + 3))) rfl rfl rfl rfl hR.1.1 hc hs ?_
  intro r h1 hq
  obtain ⟨v, P2, rfl, ⟨fs, hfs⟩, hz, hk⟩ := j_replace (sc := (L, xs)) hR hq
  (repeat (refine zS_one rfl ?_; simp (disch := (first | decide | assumption | omega)) only [i_push, i_null, i_ild, i_ald, i_ist, i_ast, i_inc, i_bin, i_div, i_un, i_dup, i_pop, i_dup2, i_if, i_icmp, i_nul, i_nnl, i_goto, i_getf, i_putf, i_gets, i_nald, i_nast, i_aald, i_aast, i_alen, i_new, i_newa, i_newq, i_math, i_oini, i_iret, i_zret, i_aret, i_vret, z_fit, List.getElem?_cons_zero, List.getElem?_cons_succ, List.set_cons_zero, List.set_cons_succ, Nat.reduceAdd, Nat.reduceLT, Nat.reduceLeDiff, Nat.reduceEqDiff, Nat.zero_lt_succ, Value.category, true_and, or_true, true_or, and_true, false_implies, true_implies, not_false_eq_true, not_true_eq_false, List.map_cons, List.map_nil, List.sum_cons, List.sum_nil, va_up_eq, bx_uu, va_up_lit, List.length_cons, List.length_nil, List.drop_succ_cons, List.drop_zero, Option.toList_some, Option.toList_none, List.cons_append, List.nil_append, w7, false_and, or_false, n1, v1, c1, n2, v2, c2, n3, v3, c3]))
  (try refine zS_one rfl ?_)
  refine r_callV hz rfl rfl rfl rfl hfs hc hs ?_
  intro r2 h2 hp
  obtain ⟨rfl, hR2⟩ := hk r2 h2 hp
  have := cont h2 hR2
  (iterate 1 (refine zS_one rfl ?_; simp (disch := (first | decide | assumption | omega)) only [i_push, i_null, i_ild, i_ald, i_ist, i_ast, i_inc, i_bin, i_div, i_un, i_dup, i_pop, i_dup2, i_if, i_icmp, i_nul, i_nnl, i_goto, i_getf, i_putf, i_gets, i_nald, i_nast, i_aald, i_aast, i_alen, i_new, i_newa, i_newq, i_math, i_oini, i_iret, i_zret, i_aret, i_vret, z_fit, List.getElem?_cons_zero, List.getElem?_cons_succ, List.set_cons_zero, List.set_cons_succ, Nat.reduceAdd, Nat.reduceLT, Nat.reduceLeDiff, Nat.reduceEqDiff, Nat.zero_lt_succ, Value.category, true_and, or_true, true_or, and_true, false_implies, true_implies, not_false_eq_true, not_true_eq_false, List.map_cons, List.map_nil, List.sum_cons, List.sum_nil, va_up_eq, bx_uu, va_up_lit, List.length_cons, List.length_nil, List.drop_succ_cons, List.drop_zero, Option.toList_some, Option.toList_none, List.cons_append, List.nil_append, w7]))
  exact this
set_option maxHeartbeats 4000000 in
theorem l_give (hi : i + 5 < L) (hL : L ≤ 3072) (hR : RLe h) (hc : uc ≤ 600000) (hs : us ≤ 7302250) (cont : ∀ h', RLe h' → lwZ L xs 747 i h' uc us) : lwZ L xs 398 i h uc us := by
  obtain ⟨ns, n1, made, den1, n2, den2, G, m, ps, V, S, A, D, hR⟩ := hR
  have hb := hR.bd
  unfold lwZ at cont ⊢
  have w7 : ¬ (0 : Nat) = 1 := by decide
  have n1 : nI i + 1 = nI (i + 1) := nI_add i 1
  have v1 : vp_in (nI (i + 1)) L := vp_in_nI (by omega) (by omega)
  have c1 : (nI (i + 1)).toNatClampNeg = i + 1 := nI_clamp (by omega)
  (repeat (refine zS_one rfl ?_; simp (disch := (first | decide | assumption | omega)) only [i_push, i_null, i_ild, i_ald, i_ist, i_ast, i_inc, i_bin, i_div, i_un, i_dup, i_pop, i_dup2, i_if, i_icmp, i_nul, i_nnl, i_goto, i_getf, i_putf, i_gets, i_nald, i_nast, i_aald, i_aast, i_alen, i_new, i_newa, i_newq, i_math, i_oini, i_iret, i_zret, i_aret, i_vret, z_fit, List.getElem?_cons_zero, List.getElem?_cons_succ, List.set_cons_zero, List.set_cons_succ, Nat.reduceAdd, Nat.reduceLT, Nat.reduceLeDiff, Nat.reduceEqDiff, Nat.zero_lt_succ, Value.category, true_and, or_true, true_or, and_true, false_implies, true_implies, not_false_eq_true, not_true_eq_false, List.map_cons, List.map_nil, List.sum_cons, List.sum_nil, va_up_eq, bx_uu, va_up_lit, List.length_cons, List.length_nil, List.drop_succ_cons, List.drop_zero, Option.toList_some, Option.toList_none, List.cons_append, List.nil_append, w7, false_and, or_false, n1, v1, c1]))
  (try refine zS_one rfl ?_)
  refine r_callV (c_Stgive (L, xs) 5 hR.1 (xs (i + 1))) rfl rfl rfl rfl hR.1.1 hc hs ?_
  intro r h1 hq
  obtain ⟨v, P2, rfl, ⟨fs, hfs⟩, hz, hk⟩ := j_give (sc := (L, xs)) hR hq
  (repeat (refine zS_one rfl ?_; simp (disch := (first | decide | assumption | omega)) only [i_push, i_null, i_ild, i_ald, i_ist, i_ast, i_inc, i_bin, i_div, i_un, i_dup, i_pop, i_dup2, i_if, i_icmp, i_nul, i_nnl, i_goto, i_getf, i_putf, i_gets, i_nald, i_nast, i_aald, i_aast, i_alen, i_new, i_newa, i_newq, i_math, i_oini, i_iret, i_zret, i_aret, i_vret, z_fit, List.getElem?_cons_zero, List.getElem?_cons_succ, List.set_cons_zero, List.set_cons_succ, Nat.reduceAdd, Nat.reduceLT, Nat.reduceLeDiff, Nat.reduceEqDiff, Nat.zero_lt_succ, Value.category, true_and, or_true, true_or, and_true, false_implies, true_implies, not_false_eq_true, not_true_eq_false, List.map_cons, List.map_nil, List.sum_cons, List.sum_nil, va_up_eq, bx_uu, va_up_lit, List.length_cons, List.length_nil, List.drop_succ_cons, List.drop_zero, Option.toList_some, Option.toList_none, List.cons_append, List.nil_append, w7, false_and, or_false, n1, v1, c1]))
  (try refine zS_one rfl ?_)
  refine r_callV hz rfl rfl rfl rfl hfs hc hs ?_
  intro r2 h2 hp
  obtain ⟨rfl, hR2⟩ := hk r2 h2 hp
  have := cont h2 hR2
  (iterate 1 (refine zS_one rfl ?_; simp (disch := (first | decide | assumption | omega)) only [i_push, i_null, i_ild, i_ald, i_ist, i_ast, i_inc, i_bin, i_div, i_un, i_dup, i_pop, i_dup2, i_if, i_icmp, i_nul, i_nnl, i_goto, i_getf, i_putf, i_gets, i_nald, i_nast, i_aald, i_aast, i_alen, i_new, i_newa, i_newq, i_math, i_oini, i_iret, i_zret, i_aret, i_vret, z_fit, List.getElem?_cons_zero, List.getElem?_cons_succ, List.set_cons_zero, List.set_cons_succ, Nat.reduceAdd, Nat.reduceLT, Nat.reduceLeDiff, Nat.reduceEqDiff, Nat.zero_lt_succ, Value.category, true_and, or_true, true_or, and_true, false_implies, true_implies, not_false_eq_true, not_true_eq_false, List.map_cons, List.map_nil, List.sum_cons, List.sum_nil, va_up_eq, bx_uu, va_up_lit, List.length_cons, List.length_nil, List.drop_succ_cons, List.drop_zero, Option.toList_some, Option.toList_none, List.cons_append, List.nil_append, w7]))
  exact this
set_option maxHeartbeats 4000000 in
theorem l_tick (hi : i + 5 < L) (hL : L ≤ 3072) (hR : RLe h) (hc : uc ≤ 600000) (hs : us ≤ 7302250) (cont : ∀ h', RLe h' → lwZ L xs 747 i h' uc us) : lwZ L xs 421 i h uc us := by
  obtain ⟨ns, n1, made, den1, n2, den2, G, m, ps, V, S, A, D, hR⟩ := hR
  have hb := hR.bd
  unfold lwZ at cont ⊢
  have w7 : ¬ (0 : Nat) = 1 := by decide
  (repeat (refine zS_one rfl ?_; simp (disch := (first | decide | assumption | omega)) only [i_push, i_null, i_ild, i_ald, i_ist, i_ast, i_inc, i_bin, i_div, i_un, i_dup, i_pop, i_dup2, i_if, i_icmp, i_nul, i_nnl, i_goto, i_getf, i_putf, i_gets, i_nald, i_nast, i_aald, i_aast, i_alen, i_new, i_newa, i_newq, i_math, i_oini, i_iret, i_zret, i_aret, i_vret, z_fit, List.getElem?_cons_zero, List.getElem?_cons_succ, List.set_cons_zero, List.set_cons_succ, Nat.reduceAdd, Nat.reduceLT, Nat.reduceLeDiff, Nat.reduceEqDiff, Nat.zero_lt_succ, Value.category, true_and, or_true, true_or, and_true, false_implies, true_implies, not_false_eq_true, not_true_eq_false, List.map_cons, List.map_nil, List.sum_cons, List.sum_nil, va_up_eq, bx_uu, va_up_lit, List.length_cons, List.length_nil, List.drop_succ_cons, List.drop_zero, Option.toList_some, Option.toList_none, List.cons_append, List.nil_append, w7, false_and, or_false]))
  (try refine zS_one rfl ?_)
  refine r_callV (c_Sttick (L, xs) 5 hR.1) rfl rfl rfl rfl hR.1.1 hc hs ?_
  intro r h1 hq
  obtain ⟨v, P2, rfl, ⟨fs, hfs⟩, hz, hk⟩ := j_tick (sc := (L, xs)) hR hq
  (repeat (refine zS_one rfl ?_; simp (disch := (first | decide | assumption | omega)) only [i_push, i_null, i_ild, i_ald, i_ist, i_ast, i_inc, i_bin, i_div, i_un, i_dup, i_pop, i_dup2, i_if, i_icmp, i_nul, i_nnl, i_goto, i_getf, i_putf, i_gets, i_nald, i_nast, i_aald, i_aast, i_alen, i_new, i_newa, i_newq, i_math, i_oini, i_iret, i_zret, i_aret, i_vret, z_fit, List.getElem?_cons_zero, List.getElem?_cons_succ, List.set_cons_zero, List.set_cons_succ, Nat.reduceAdd, Nat.reduceLT, Nat.reduceLeDiff, Nat.reduceEqDiff, Nat.zero_lt_succ, Value.category, true_and, or_true, true_or, and_true, false_implies, true_implies, not_false_eq_true, not_true_eq_false, List.map_cons, List.map_nil, List.sum_cons, List.sum_nil, va_up_eq, bx_uu, va_up_lit, List.length_cons, List.length_nil, List.drop_succ_cons, List.drop_zero, Option.toList_some, Option.toList_none, List.cons_append, List.nil_append, w7, false_and, or_false]))
  (try refine zS_one rfl ?_)
  refine r_callV hz rfl rfl rfl rfl hfs hc hs ?_
  intro r2 h2 hp
  obtain ⟨rfl, hR2⟩ := hk r2 h2 hp
  have := cont h2 hR2
  (iterate 1 (refine zS_one rfl ?_; simp (disch := (first | decide | assumption | omega)) only [i_push, i_null, i_ild, i_ald, i_ist, i_ast, i_inc, i_bin, i_div, i_un, i_dup, i_pop, i_dup2, i_if, i_icmp, i_nul, i_nnl, i_goto, i_getf, i_putf, i_gets, i_nald, i_nast, i_aald, i_aast, i_alen, i_new, i_newa, i_newq, i_math, i_oini, i_iret, i_zret, i_aret, i_vret, z_fit, List.getElem?_cons_zero, List.getElem?_cons_succ, List.set_cons_zero, List.set_cons_succ, Nat.reduceAdd, Nat.reduceLT, Nat.reduceLeDiff, Nat.reduceEqDiff, Nat.zero_lt_succ, Value.category, true_and, or_true, true_or, and_true, false_implies, true_implies, not_false_eq_true, not_true_eq_false, List.map_cons, List.map_nil, List.sum_cons, List.sum_nil, va_up_eq, bx_uu, va_up_lit, List.length_cons, List.length_nil, List.drop_succ_cons, List.drop_zero, Option.toList_some, Option.toList_none, List.cons_append, List.nil_append, w7]))
  exact this
set_option maxHeartbeats 4000000 in
theorem l_state (hi : i + 5 < L) (hL : L ≤ 3072) (hR : RLe h) (hc : uc ≤ 600000) (hs : us ≤ 7302250) (cont : ∀ h', RLe h' → lwZ L xs 747 i h' uc us) : lwZ L xs 434 i h uc us := by
  obtain ⟨ns, n1, made, den1, n2, den2, G, m, ps, V, S, A, D, hR⟩ := hR
  have hb := hR.bd
  unfold lwZ at cont ⊢
  have w7 : ¬ (0 : Nat) = 1 := by decide
  have n1 : nI i + 1 = nI (i + 1) := nI_add i 1
  have v1 : vp_in (nI (i + 1)) L := vp_in_nI (by omega) (by omega)
  have c1 : (nI (i + 1)).toNatClampNeg = i + 1 := nI_clamp (by omega)
  (repeat (refine zS_one rfl ?_; simp (disch := (first | decide | assumption | omega)) only [i_push, i_null, i_ild, i_ald, i_ist, i_ast, i_inc, i_bin, i_div, i_un, i_dup, i_pop, i_dup2, i_if, i_icmp, i_nul, i_nnl, i_goto, i_getf, i_putf, i_gets, i_nald, i_nast, i_aald, i_aast, i_alen, i_new, i_newa, i_newq, i_math, i_oini, i_iret, i_zret, i_aret, i_vret, z_fit, List.getElem?_cons_zero, List.getElem?_cons_succ, List.set_cons_zero, List.set_cons_succ, Nat.reduceAdd, Nat.reduceLT, Nat.reduceLeDiff, Nat.reduceEqDiff, Nat.zero_lt_succ, Value.category, true_and, or_true, true_or, and_true, false_implies, true_implies, not_false_eq_true, not_true_eq_false, List.map_cons, List.map_nil, List.sum_cons, List.sum_nil, va_up_eq, bx_uu, va_up_lit, List.length_cons, List.length_nil, List.drop_succ_cons, List.drop_zero, Option.toList_some, Option.toList_none, List.cons_append, List.nil_append, w7, false_and, or_false, n1, v1, c1]))
  (try refine zS_one rfl ?_)
  refine r_callV (c_Ststate (L, xs) 6 hR.1 (xs (i + 1))) rfl rfl rfl rfl hR.1.1 hc hs ?_
  intro r h1 hq
  obtain ⟨v, P2, rfl, ⟨fs, hfs⟩, hz, hk⟩ := j_qP (sc := (L, xs)) (F := fun s => stV (V s).1) (mi := 114) (as := [.int (xs (i + 1))]) hR.e hR.f (by omega) hq (c_Mstate (L, xs) 5 hR.2.1 hR.st (xs (i + 1)))
  (repeat (refine zS_one rfl ?_; simp (disch := (first | decide | assumption | omega)) only [i_push, i_null, i_ild, i_ald, i_ist, i_ast, i_inc, i_bin, i_div, i_un, i_dup, i_pop, i_dup2, i_if, i_icmp, i_nul, i_nnl, i_goto, i_getf, i_putf, i_gets, i_nald, i_nast, i_aald, i_aast, i_alen, i_new, i_newa, i_newq, i_math, i_oini, i_iret, i_zret, i_aret, i_vret, z_fit, List.getElem?_cons_zero, List.getElem?_cons_succ, List.set_cons_zero, List.set_cons_succ, Nat.reduceAdd, Nat.reduceLT, Nat.reduceLeDiff, Nat.reduceEqDiff, Nat.zero_lt_succ, Value.category, true_and, or_true, true_or, and_true, false_implies, true_implies, not_false_eq_true, not_true_eq_false, List.map_cons, List.map_nil, List.sum_cons, List.sum_nil, va_up_eq, bx_uu, va_up_lit, List.length_cons, List.length_nil, List.drop_succ_cons, List.drop_zero, Option.toList_some, Option.toList_none, List.cons_append, List.nil_append, w7, false_and, or_false, n1, v1, c1]))
  (try refine zS_one rfl ?_)
  refine r_callV hz rfl rfl rfl rfl hfs hc hs ?_
  intro r2 h2 hp
  obtain ⟨rfl, hR2⟩ := hk r2 h2 hp
  have := cont h2 hR2
  (iterate 1 (refine zS_one rfl ?_; simp (disch := (first | decide | assumption | omega)) only [i_push, i_null, i_ild, i_ald, i_ist, i_ast, i_inc, i_bin, i_div, i_un, i_dup, i_pop, i_dup2, i_if, i_icmp, i_nul, i_nnl, i_goto, i_getf, i_putf, i_gets, i_nald, i_nast, i_aald, i_aast, i_alen, i_new, i_newa, i_newq, i_math, i_oini, i_iret, i_zret, i_aret, i_vret, z_fit, List.getElem?_cons_zero, List.getElem?_cons_succ, List.set_cons_zero, List.set_cons_succ, Nat.reduceAdd, Nat.reduceLT, Nat.reduceLeDiff, Nat.reduceEqDiff, Nat.zero_lt_succ, Value.category, true_and, or_true, true_or, and_true, false_implies, true_implies, not_false_eq_true, not_true_eq_false, List.map_cons, List.map_nil, List.sum_cons, List.sum_nil, va_up_eq, bx_uu, va_up_lit, List.length_cons, List.length_nil, List.drop_succ_cons, List.drop_zero, Option.toList_some, Option.toList_none, List.cons_append, List.nil_append, w7]))
  exact this
set_option maxHeartbeats 4000000 in
theorem l_steps (hi : i + 5 < L) (hL : L ≤ 3072) (hR : RLe h) (hc : uc ≤ 600000) (hs : us ≤ 7302250) (cont : ∀ h', RLe h' → lwZ L xs 747 i h' uc us) : lwZ L xs 457 i h uc us := by
  obtain ⟨ns, n1, made, den1, n2, den2, G, m, ps, V, S, A, D, hR⟩ := hR
  have hb := hR.bd
  unfold lwZ at cont ⊢
  have w7 : ¬ (0 : Nat) = 1 := by decide
  have n1 : nI i + 1 = nI (i + 1) := nI_add i 1
  have v1 : vp_in (nI (i + 1)) L := vp_in_nI (by omega) (by omega)
  have c1 : (nI (i + 1)).toNatClampNeg = i + 1 := nI_clamp (by omega)
  (repeat (refine zS_one rfl ?_; simp (disch := (first | decide | assumption | omega)) only [i_push, i_null, i_ild, i_ald, i_ist, i_ast, i_inc, i_bin, i_div, i_un, i_dup, i_pop, i_dup2, i_if, i_icmp, i_nul, i_nnl, i_goto, i_getf, i_putf, i_gets, i_nald, i_nast, i_aald, i_aast, i_alen, i_new, i_newa, i_newq, i_math, i_oini, i_iret, i_zret, i_aret, i_vret, z_fit, List.getElem?_cons_zero, List.getElem?_cons_succ, List.set_cons_zero, List.set_cons_succ, Nat.reduceAdd, Nat.reduceLT, Nat.reduceLeDiff, Nat.reduceEqDiff, Nat.zero_lt_succ, Value.category, true_and, or_true, true_or, and_true, false_implies, true_implies, not_false_eq_true, not_true_eq_false, List.map_cons, List.map_nil, List.sum_cons, List.sum_nil, va_up_eq, bx_uu, va_up_lit, List.length_cons, List.length_nil, List.drop_succ_cons, List.drop_zero, Option.toList_some, Option.toList_none, List.cons_append, List.nil_append, w7, false_and, or_false, n1, v1, c1]))
  (try refine zS_one rfl ?_)
  refine r_callV (c_Ststeps (L, xs) 6 hR.1 (xs (i + 1))) rfl rfl rfl rfl hR.1.1 hc hs ?_
  intro r h1 hq
  obtain ⟨v, P2, rfl, ⟨fs, hfs⟩, hz, hk⟩ := j_qP (sc := (L, xs)) (F := fun s => (V s).1 7) (mi := 115) (as := [.int (xs (i + 1))]) hR.e hR.f (by omega) hq (c_Msteps (L, xs) 5 hR.2.1 (xs (i + 1)))
  (repeat (refine zS_one rfl ?_; simp (disch := (first | decide | assumption | omega)) only [i_push, i_null, i_ild, i_ald, i_ist, i_ast, i_inc, i_bin, i_div, i_un, i_dup, i_pop, i_dup2, i_if, i_icmp, i_nul, i_nnl, i_goto, i_getf, i_putf, i_gets, i_nald, i_nast, i_aald, i_aast, i_alen, i_new, i_newa, i_newq, i_math, i_oini, i_iret, i_zret, i_aret, i_vret, z_fit, List.getElem?_cons_zero, List.getElem?_cons_succ, List.set_cons_zero, List.set_cons_succ, Nat.reduceAdd, Nat.reduceLT, Nat.reduceLeDiff, Nat.reduceEqDiff, Nat.zero_lt_succ, Value.category, true_and, or_true, true_or, and_true, false_implies, true_implies, not_false_eq_true, not_true_eq_false, List.map_cons, List.map_nil, List.sum_cons, List.sum_nil, va_up_eq, bx_uu, va_up_lit, List.length_cons, List.length_nil, List.drop_succ_cons, List.drop_zero, Option.toList_some, Option.toList_none, List.cons_append, List.nil_append, w7, false_and, or_false, n1, v1, c1]))
  (try refine zS_one rfl ?_)
  refine r_callV hz rfl rfl rfl rfl hfs hc hs ?_
  intro r2 h2 hp
  obtain ⟨rfl, hR2⟩ := hk r2 h2 hp
  have := cont h2 hR2
  (iterate 1 (refine zS_one rfl ?_; simp (disch := (first | decide | assumption | omega)) only [i_push, i_null, i_ild, i_ald, i_ist, i_ast, i_inc, i_bin, i_div, i_un, i_dup, i_pop, i_dup2, i_if, i_icmp, i_nul, i_nnl, i_goto, i_getf, i_putf, i_gets, i_nald, i_nast, i_aald, i_aast, i_alen, i_new, i_newa, i_newq, i_math, i_oini, i_iret, i_zret, i_aret, i_vret, z_fit, List.getElem?_cons_zero, List.getElem?_cons_succ, List.set_cons_zero, List.set_cons_succ, Nat.reduceAdd, Nat.reduceLT, Nat.reduceLeDiff, Nat.reduceEqDiff, Nat.zero_lt_succ, Value.category, true_and, or_true, true_or, and_true, false_implies, true_implies, not_false_eq_true, not_true_eq_false, List.map_cons, List.map_nil, List.sum_cons, List.sum_nil, va_up_eq, bx_uu, va_up_lit, List.length_cons, List.length_nil, List.drop_succ_cons, List.drop_zero, Option.toList_some, Option.toList_none, List.cons_append, List.nil_append, w7]))
  exact this
set_option maxHeartbeats 4000000 in
theorem l_peer (hi : i + 5 < L) (hL : L ≤ 3072) (hR : RLe h) (hc : uc ≤ 600000) (hs : us ≤ 7302250) (cont : ∀ h', RLe h' → lwZ L xs 747 i h' uc us) : lwZ L xs 480 i h uc us := by
  obtain ⟨ns, n1, made, den1, n2, den2, G, m, ps, V, S, A, D, hR⟩ := hR
  have hb := hR.bd
  unfold lwZ at cont ⊢
  have w7 : ¬ (0 : Nat) = 1 := by decide
  have n1 : nI i + 1 = nI (i + 1) := nI_add i 1
  have v1 : vp_in (nI (i + 1)) L := vp_in_nI (by omega) (by omega)
  have c1 : (nI (i + 1)).toNatClampNeg = i + 1 := nI_clamp (by omega)
  (repeat (refine zS_one rfl ?_; simp (disch := (first | decide | assumption | omega)) only [i_push, i_null, i_ild, i_ald, i_ist, i_ast, i_inc, i_bin, i_div, i_un, i_dup, i_pop, i_dup2, i_if, i_icmp, i_nul, i_nnl, i_goto, i_getf, i_putf, i_gets, i_nald, i_nast, i_aald, i_aast, i_alen, i_new, i_newa, i_newq, i_math, i_oini, i_iret, i_zret, i_aret, i_vret, z_fit, List.getElem?_cons_zero, List.getElem?_cons_succ, List.set_cons_zero, List.set_cons_succ, Nat.reduceAdd, Nat.reduceLT, Nat.reduceLeDiff, Nat.reduceEqDiff, Nat.zero_lt_succ, Value.category, true_and, or_true, true_or, and_true, false_implies, true_implies, not_false_eq_true, not_true_eq_false, List.map_cons, List.map_nil, List.sum_cons, List.sum_nil, va_up_eq, bx_uu, va_up_lit, List.length_cons, List.length_nil, List.drop_succ_cons, List.drop_zero, Option.toList_some, Option.toList_none, List.cons_append, List.nil_append, w7, false_and, or_false, n1, v1, c1]))
  (try refine zS_one rfl ?_)
  refine r_callV (c_Stpeer (L, xs) 6 hR.1 (xs (i + 1))) rfl rfl rfl rfl hR.1.1 hc hs ?_
  intro r h1 hq
  obtain ⟨v, P2, rfl, ⟨fs, hfs⟩, hz, hk⟩ := j_qP (sc := (L, xs)) (F := fun s => (V s).1 4) (mi := 116) (as := [.int (xs (i + 1))]) hR.e hR.f (by omega) hq (c_Mpeer (L, xs) 5 hR.2.1 (xs (i + 1)))
  (repeat (refine zS_one rfl ?_; simp (disch := (first | decide | assumption | omega)) only [i_push, i_null, i_ild, i_ald, i_ist, i_ast, i_inc, i_bin, i_div, i_un, i_dup, i_pop, i_dup2, i_if, i_icmp, i_nul, i_nnl, i_goto, i_getf, i_putf, i_gets, i_nald, i_nast, i_aald, i_aast, i_alen, i_new, i_newa, i_newq, i_math, i_oini, i_iret, i_zret, i_aret, i_vret, z_fit, List.getElem?_cons_zero, List.getElem?_cons_succ, List.set_cons_zero, List.set_cons_succ, Nat.reduceAdd, Nat.reduceLT, Nat.reduceLeDiff, Nat.reduceEqDiff, Nat.zero_lt_succ, Value.category, true_and, or_true, true_or, and_true, false_implies, true_implies, not_false_eq_true, not_true_eq_false, List.map_cons, List.map_nil, List.sum_cons, List.sum_nil, va_up_eq, bx_uu, va_up_lit, List.length_cons, List.length_nil, List.drop_succ_cons, List.drop_zero, Option.toList_some, Option.toList_none, List.cons_append, List.nil_append, w7, false_and, or_false, n1, v1, c1]))
  (try refine zS_one rfl ?_)
  refine r_callV hz rfl rfl rfl rfl hfs hc hs ?_
  intro r2 h2 hp
  obtain ⟨rfl, hR2⟩ := hk r2 h2 hp
  have := cont h2 hR2
  (iterate 1 (refine zS_one rfl ?_; simp (disch := (first | decide | assumption | omega)) only [i_push, i_null, i_ild, i_ald, i_ist, i_ast, i_inc, i_bin, i_div, i_un, i_dup, i_pop, i_dup2, i_if, i_icmp, i_nul, i_nnl, i_goto, i_getf, i_putf, i_gets, i_nald, i_nast, i_aald, i_aast, i_alen, i_new, i_newa, i_newq, i_math, i_oini, i_iret, i_zret, i_aret, i_vret, z_fit, List.getElem?_cons_zero, List.getElem?_cons_succ, List.set_cons_zero, List.set_cons_succ, Nat.reduceAdd, Nat.reduceLT, Nat.reduceLeDiff, Nat.reduceEqDiff, Nat.zero_lt_succ, Value.category, true_and, or_true, true_or, and_true, false_implies, true_implies, not_false_eq_true, not_true_eq_false, List.map_cons, List.map_nil, List.sum_cons, List.sum_nil, va_up_eq, bx_uu, va_up_lit, List.length_cons, List.length_nil, List.drop_succ_cons, List.drop_zero, Option.toList_some, Option.toList_none, List.cons_append, List.nil_append, w7]))
  exact this
set_option maxHeartbeats 4000000 in
theorem l_payload (hi : i + 5 < L) (hL : L ≤ 3072) (hR : RLe h) (hc : uc ≤ 600000) (hs : us ≤ 7302250) (cont : ∀ h', RLe h' → lwZ L xs 747 i h' uc us) : lwZ L xs 503 i h uc us := by
  obtain ⟨ns, n1, made, den1, n2, den2, G, m, ps, V, S, A, D, hR⟩ := hR
  have hb := hR.bd
  unfold lwZ at cont ⊢
  have w7 : ¬ (0 : Nat) = 1 := by decide
  have n1 : nI i + 1 = nI (i + 1) := nI_add i 1
  have v1 : vp_in (nI (i + 1)) L := vp_in_nI (by omega) (by omega)
  have c1 : (nI (i + 1)).toNatClampNeg = i + 1 := nI_clamp (by omega)
  (repeat (refine zS_one rfl ?_; simp (disch := (first | decide | assumption | omega)) only [i_push, i_null, i_ild, i_ald, i_ist, i_ast, i_inc, i_bin, i_div, i_un, i_dup, i_pop, i_dup2, i_if, i_icmp, i_nul, i_nnl, i_goto, i_getf, i_putf, i_gets, i_nald, i_nast, i_aald, i_aast, i_alen, i_new, i_newa, i_newq, i_math, i_oini, i_iret, i_zret, i_aret, i_vret, z_fit, List.getElem?_cons_zero, List.getElem?_cons_succ, List.set_cons_zero, List.set_cons_succ, Nat.reduceAdd, Nat.reduceLT, Nat.reduceLeDiff, Nat.reduceEqDiff, Nat.zero_lt_succ, Value.category, true_and, or_true, true_or, and_true, false_implies, true_implies, not_false_eq_true, not_true_eq_false, List.map_cons, List.map_nil, List.sum_cons, List.sum_nil, va_up_eq, bx_uu, va_up_lit, List.length_cons, List.length_nil, List.drop_succ_cons, List.drop_zero, Option.toList_some, Option.toList_none, List.cons_append, List.nil_append, w7, false_and, or_false, n1, v1, c1]))
  (try refine zS_one rfl ?_)
  refine r_callV (c_Stpayload (L, xs) 6 hR.1 (xs (i + 1))) rfl rfl rfl rfl hR.1.1 hc hs ?_
  intro r h1 hq
  obtain ⟨v, P2, rfl, ⟨fs, hfs⟩, hz, hk⟩ := j_qP (sc := (L, xs)) (F := fun s => (V s).1 10) (mi := 117) (as := [.int (xs (i + 1))]) hR.e hR.f (by omega) hq (c_Mpayload (L, xs) 5 hR.2.1 (xs (i + 1)))
  (repeat (refine zS_one rfl ?_; simp (disch := (first | decide | assumption | omega)) only [i_push, i_null, i_ild, i_ald, i_ist, i_ast, i_inc, i_bin, i_div, i_un, i_dup, i_pop, i_dup2, i_if, i_icmp, i_nul, i_nnl, i_goto, i_getf, i_putf, i_gets, i_nald, i_nast, i_aald, i_aast, i_alen, i_new, i_newa, i_newq, i_math, i_oini, i_iret, i_zret, i_aret, i_vret, z_fit, List.getElem?_cons_zero, List.getElem?_cons_succ, List.set_cons_zero, List.set_cons_succ, Nat.reduceAdd, Nat.reduceLT, Nat.reduceLeDiff, Nat.reduceEqDiff, Nat.zero_lt_succ, Value.category, true_and, or_true, true_or, and_true, false_implies, true_implies, not_false_eq_true, not_true_eq_false, List.map_cons, List.map_nil, List.sum_cons, List.sum_nil, va_up_eq, bx_uu, va_up_lit, List.length_cons, List.length_nil, List.drop_succ_cons, List.drop_zero, Option.toList_some, Option.toList_none, List.cons_append, List.nil_append, w7, false_and, or_false, n1, v1, c1]))
  (try refine zS_one rfl ?_)
  refine r_callV hz rfl rfl rfl rfl hfs hc hs ?_
  intro r2 h2 hp
  obtain ⟨rfl, hR2⟩ := hk r2 h2 hp
  have := cont h2 hR2
  (iterate 1 (refine zS_one rfl ?_; simp (disch := (first | decide | assumption | omega)) only [i_push, i_null, i_ild, i_ald, i_ist, i_ast, i_inc, i_bin, i_div, i_un, i_dup, i_pop, i_dup2, i_if, i_icmp, i_nul, i_nnl, i_goto, i_getf, i_putf, i_gets, i_nald, i_nast, i_aald, i_aast, i_alen, i_new, i_newa, i_newq, i_math, i_oini, i_iret, i_zret, i_aret, i_vret, z_fit, List.getElem?_cons_zero, List.getElem?_cons_succ, List.set_cons_zero, List.set_cons_succ, Nat.reduceAdd, Nat.reduceLT, Nat.reduceLeDiff, Nat.reduceEqDiff, Nat.zero_lt_succ, Value.category, true_and, or_true, true_or, and_true, false_implies, true_implies, not_false_eq_true, not_true_eq_false, List.map_cons, List.map_nil, List.sum_cons, List.sum_nil, va_up_eq, bx_uu, va_up_lit, List.length_cons, List.length_nil, List.drop_succ_cons, List.drop_zero, Option.toList_some, Option.toList_none, List.cons_append, List.nil_append, w7]))
  exact this
set_option maxHeartbeats 4000000 in
theorem l_accepted (hi : i + 5 < L) (hL : L ≤ 3072) (hR : RLe h) (hc : uc ≤ 600000) (hs : us ≤ 7302250) (cont : ∀ h', RLe h' → lwZ L xs 747 i h' uc us) : lwZ L xs 526 i h uc us := by
  obtain ⟨ns, n1, made, den1, n2, den2, G, m, ps, V, S, A, D, hR⟩ := hR
  have hb := hR.bd
  unfold lwZ at cont ⊢
  have w7 : ¬ (0 : Nat) = 1 := by decide
  have n1 : nI i + 1 = nI (i + 1) := nI_add i 1
  have v1 : vp_in (nI (i + 1)) L := vp_in_nI (by omega) (by omega)
  have c1 : (nI (i + 1)).toNatClampNeg = i + 1 := nI_clamp (by omega)
  (repeat (refine zS_one rfl ?_; simp (disch := (first | decide | assumption | omega)) only [i_push, i_null, i_ild, i_ald, i_ist, i_ast, i_inc, i_bin, i_div, i_un, i_dup, i_pop, i_dup2, i_if, i_icmp, i_nul, i_nnl, i_goto, i_getf, i_putf, i_gets, i_nald, i_nast, i_aald, i_aast, i_alen, i_new, i_newa, i_newq, i_math, i_oini, i_iret, i_zret, i_aret, i_vret, z_fit, List.getElem?_cons_zero, List.getElem?_cons_succ, List.set_cons_zero, List.set_cons_succ, Nat.reduceAdd, Nat.reduceLT, Nat.reduceLeDiff, Nat.reduceEqDiff, Nat.zero_lt_succ, Value.category, true_and, or_true, true_or, and_true, false_implies, true_implies, not_false_eq_true, not_true_eq_false, List.map_cons, List.map_nil, List.sum_cons, List.sum_nil, va_up_eq, bx_uu, va_up_lit, List.length_cons, List.length_nil, List.drop_succ_cons, List.drop_zero, Option.toList_some, Option.toList_none, List.cons_append, List.nil_append, w7, false_and, or_false, n1, v1, c1]))
  (try refine zS_one rfl ?_)
  refine r_callV (c_Staccepted (L, xs) 6 hR.1 (xs (i + 1))) rfl rfl rfl rfl hR.1.1 hc hs ?_
  intro r h1 hq
  obtain ⟨v, P2, rfl, ⟨fs, hfs⟩, hz, hk⟩ := j_qP (sc := (L, xs)) (F := fun s => (V s).1 11) (mi := 118) (as := [.int (xs (i + 1))]) hR.e hR.f (by omega) hq (c_Maccepted (L, xs) 5 hR.2.1 (xs (i + 1)))
  (repeat (refine zS_one rfl ?_; simp (disch := (first | decide | assumption | omega)) only [i_push, i_null, i_ild, i_ald, i_ist, i_ast, i_inc, i_bin, i_div, i_un, i_dup, i_pop, i_dup2, i_if, i_icmp, i_nul, i_nnl, i_goto, i_getf, i_putf, i_gets, i_nald, i_nast, i_aald, i_aast, i_alen, i_new, i_newa, i_newq, i_math, i_oini, i_iret, i_zret, i_aret, i_vret, z_fit, List.getElem?_cons_zero, List.getElem?_cons_succ, List.set_cons_zero, List.set_cons_succ, Nat.reduceAdd, Nat.reduceLT, Nat.reduceLeDiff, Nat.reduceEqDiff, Nat.zero_lt_succ, Value.category, true_and, or_true, true_or, and_true, false_implies, true_implies, not_false_eq_true, not_true_eq_false, List.map_cons, List.map_nil, List.sum_cons, List.sum_nil, va_up_eq, bx_uu, va_up_lit, List.length_cons, List.length_nil, List.drop_succ_cons, List.drop_zero, Option.toList_some, Option.toList_none, List.cons_append, List.nil_append, w7, false_and, or_false, n1, v1, c1]))
  (try refine zS_one rfl ?_)
  refine r_callV hz rfl rfl rfl rfl hfs hc hs ?_
  intro r2 h2 hp
  obtain ⟨rfl, hR2⟩ := hk r2 h2 hp
  have := cont h2 hR2
  (iterate 1 (refine zS_one rfl ?_; simp (disch := (first | decide | assumption | omega)) only [i_push, i_null, i_ild, i_ald, i_ist, i_ast, i_inc, i_bin, i_div, i_un, i_dup, i_pop, i_dup2, i_if, i_icmp, i_nul, i_nnl, i_goto, i_getf, i_putf, i_gets, i_nald, i_nast, i_aald, i_aast, i_alen, i_new, i_newa, i_newq, i_math, i_oini, i_iret, i_zret, i_aret, i_vret, z_fit, List.getElem?_cons_zero, List.getElem?_cons_succ, List.set_cons_zero, List.set_cons_succ, Nat.reduceAdd, Nat.reduceLT, Nat.reduceLeDiff, Nat.reduceEqDiff, Nat.zero_lt_succ, Value.category, true_and, or_true, true_or, and_true, false_implies, true_implies, not_false_eq_true, not_true_eq_false, List.map_cons, List.map_nil, List.sum_cons, List.sum_nil, va_up_eq, bx_uu, va_up_lit, List.length_cons, List.length_nil, List.drop_succ_cons, List.drop_zero, Option.toList_some, Option.toList_none, List.cons_append, List.nil_append, w7]))
  exact this
set_option maxHeartbeats 4000000 in
theorem l_match (hi : i + 5 < L) (hL : L ≤ 3072) (hR : RLe h) (hc : uc ≤ 600000) (hs : us ≤ 7302250) (cont : ∀ h', RLe h' → lwZ L xs 747 i h' uc us) : lwZ L xs 549 i h uc us := by
  obtain ⟨ns, n1, made, den1, n2, den2, G, m, ps, V, S, A, D, hR⟩ := hR
  have hb := hR.bd
  unfold lwZ at cont ⊢
  have w7 : ¬ (0 : Nat) = 1 := by decide
  have n1 : nI i + 1 = nI (i + 1) := nI_add i 1
  have v1 : vp_in (nI (i + 1)) L := vp_in_nI (by omega) (by omega)
  have c1 : (nI (i + 1)).toNatClampNeg = i + 1 := nI_clamp (by omega)
  have n2 : nI i + 2 = nI (i + 2) := nI_add i 2
  have v2 : vp_in (nI (i + 2)) L := vp_in_nI (by omega) (by omega)
  have c2 : (nI (i + 2)).toNatClampNeg = i + 2 := nI_clamp (by omega)
  (repeat (refine zS_one rfl ?_; simp (disch := (first | decide | assumption | omega)) only [i_push, i_null, i_ild, i_ald, i_ist, i_ast, i_inc, i_bin, i_div, i_un, i_dup, i_pop, i_dup2, i_if, i_icmp, i_nul, i_nnl, i_goto, i_getf, i_putf, i_gets, i_nald, i_nast, i_aald, i_aast, i_alen, i_new, i_newa, i_newq, i_math, i_oini, i_iret, i_zret, i_aret, i_vret, z_fit, List.getElem?_cons_zero, List.getElem?_cons_succ, List.set_cons_zero, List.set_cons_succ, Nat.reduceAdd, Nat.reduceLT, Nat.reduceLeDiff, Nat.reduceEqDiff, Nat.zero_lt_succ, Value.category, true_and, or_true, true_or, and_true, false_implies, true_implies, not_false_eq_true, not_true_eq_false, List.map_cons, List.map_nil, List.sum_cons, List.sum_nil, va_up_eq, bx_uu, va_up_lit, List.length_cons, List.length_nil, List.drop_succ_cons, List.drop_zero, Option.toList_some, Option.toList_none, List.cons_append, List.nil_append, w7, false_and, or_false, n1, v1, c1, n2, v2, c2]))
  (try refine zS_one rfl ?_)
  refine r_callV (c_Stmatch (L, xs) 6 hR.1 (xs (i + 1)) (xs (i + 2))) rfl rfl rfl rfl hR.1.1 hc hs ?_
  intro r h1 hq
  obtain ⟨v, P2, rfl, ⟨fs, hfs⟩, hz, hk⟩ := j_match (sc := (L, xs)) hR hq
  (repeat (refine zS_one rfl ?_; simp (disch := (first | decide | assumption | omega)) only [i_push, i_null, i_ild, i_ald, i_ist, i_ast, i_inc, i_bin, i_div, i_un, i_dup, i_pop, i_dup2, i_if, i_icmp, i_nul, i_nnl, i_goto, i_getf, i_putf, i_gets, i_nald, i_nast, i_aald, i_aast, i_alen, i_new, i_newa, i_newq, i_math, i_oini, i_iret, i_zret, i_aret, i_vret, z_fit, List.getElem?_cons_zero, List.getElem?_cons_succ, List.set_cons_zero, List.set_cons_succ, Nat.reduceAdd, Nat.reduceLT, Nat.reduceLeDiff, Nat.reduceEqDiff, Nat.zero_lt_succ, Value.category, true_and, or_true, true_or, and_true, false_implies, true_implies, not_false_eq_true, not_true_eq_false, List.map_cons, List.map_nil, List.sum_cons, List.sum_nil, va_up_eq, bx_uu, va_up_lit, List.length_cons, List.length_nil, List.drop_succ_cons, List.drop_zero, Option.toList_some, Option.toList_none, List.cons_append, List.nil_append, w7, false_and, or_false, n1, v1, c1, n2, v2, c2]))
  (try refine zS_one rfl ?_)
  refine r_callV hz rfl rfl rfl rfl hfs hc hs ?_
  intro r2 h2 hp
  obtain ⟨rfl, hR2⟩ := hk r2 h2 hp
  have := cont h2 hR2
  (iterate 1 (refine zS_one rfl ?_; simp (disch := (first | decide | assumption | omega)) only [i_push, i_null, i_ild, i_ald, i_ist, i_ast, i_inc, i_bin, i_div, i_un, i_dup, i_pop, i_dup2, i_if, i_icmp, i_nul, i_nnl, i_goto, i_getf, i_putf, i_gets, i_nald, i_nast, i_aald, i_aast, i_alen, i_new, i_newa, i_newq, i_math, i_oini, i_iret, i_zret, i_aret, i_vret, z_fit, List.getElem?_cons_zero, List.getElem?_cons_succ, List.set_cons_zero, List.set_cons_succ, Nat.reduceAdd, Nat.reduceLT, Nat.reduceLeDiff, Nat.reduceEqDiff, Nat.zero_lt_succ, Value.category, true_and, or_true, true_or, and_true, false_implies, true_implies, not_false_eq_true, not_true_eq_false, List.map_cons, List.map_nil, List.sum_cons, List.sum_nil, va_up_eq, bx_uu, va_up_lit, List.length_cons, List.length_nil, List.drop_succ_cons, List.drop_zero, Option.toList_some, Option.toList_none, List.cons_append, List.nil_append, w7]))
  exact this
set_option maxHeartbeats 4000000 in
theorem l_open (hi : i + 5 < L) (hL : L ≤ 3072) (hR : RLe h) (hc : uc ≤ 600000) (hs : us ≤ 7302250) (cont : ∀ h', RLe h' → lwZ L xs 747 i h' uc us) : lwZ L xs 582 i h uc us := by
  obtain ⟨ns, n1, made, den1, n2, den2, G, m, ps, V, S, A, D, hR⟩ := hR
  have hb := hR.bd
  unfold lwZ at cont ⊢
  have w7 : ¬ (0 : Nat) = 1 := by decide
  have n1 : nI i + 1 = nI (i + 1) := nI_add i 1
  have v1 : vp_in (nI (i + 1)) L := vp_in_nI (by omega) (by omega)
  have c1 : (nI (i + 1)).toNatClampNeg = i + 1 := nI_clamp (by omega)
  (repeat (refine zS_one rfl ?_; simp (disch := (first | decide | assumption | omega)) only [i_push, i_null, i_ild, i_ald, i_ist, i_ast, i_inc, i_bin, i_div, i_un, i_dup, i_pop, i_dup2, i_if, i_icmp, i_nul, i_nnl, i_goto, i_getf, i_putf, i_gets, i_nald, i_nast, i_aald, i_aast, i_alen, i_new, i_newa, i_newq, i_math, i_oini, i_iret, i_zret, i_aret, i_vret, z_fit, List.getElem?_cons_zero, List.getElem?_cons_succ, List.set_cons_zero, List.set_cons_succ, Nat.reduceAdd, Nat.reduceLT, Nat.reduceLeDiff, Nat.reduceEqDiff, Nat.zero_lt_succ, Value.category, true_and, or_true, true_or, and_true, false_implies, true_implies, not_false_eq_true, not_true_eq_false, List.map_cons, List.map_nil, List.sum_cons, List.sum_nil, va_up_eq, bx_uu, va_up_lit, List.length_cons, List.length_nil, List.drop_succ_cons, List.drop_zero, Option.toList_some, Option.toList_none, List.cons_append, List.nil_append, w7, false_and, or_false, n1, v1, c1]))
  (try refine zS_one rfl ?_)
  refine r_callV (c_Stopen (L, xs) 6 hR.1 (xs (i + 1))) rfl rfl rfl rfl hR.1.1 hc hs ?_
  intro r h1 hq
  obtain ⟨v, P2, rfl, ⟨fs, hfs⟩, hz, hk⟩ := j_open (sc := (L, xs)) hR hq
  (repeat (refine zS_one rfl ?_; simp (disch := (first | decide | assumption | omega)) only [i_push, i_null, i_ild, i_ald, i_ist, i_ast, i_inc, i_bin, i_div, i_un, i_dup, i_pop, i_dup2, i_if, i_icmp, i_nul, i_nnl, i_goto, i_getf, i_putf, i_gets, i_nald, i_nast, i_aald, i_aast, i_alen, i_new, i_newa, i_newq, i_math, i_oini, i_iret, i_zret, i_aret, i_vret, z_fit, List.getElem?_cons_zero, List.getElem?_cons_succ, List.set_cons_zero, List.set_cons_succ, Nat.reduceAdd, Nat.reduceLT, Nat.reduceLeDiff, Nat.reduceEqDiff, Nat.zero_lt_succ, Value.category, true_and, or_true, true_or, and_true, false_implies, true_implies, not_false_eq_true, not_true_eq_false, List.map_cons, List.map_nil, List.sum_cons, List.sum_nil, va_up_eq, bx_uu, va_up_lit, List.length_cons, List.length_nil, List.drop_succ_cons, List.drop_zero, Option.toList_some, Option.toList_none, List.cons_append, List.nil_append, w7, false_and, or_false, n1, v1, c1]))
  (try refine zS_one rfl ?_)
  refine r_callV hz rfl rfl rfl rfl hfs hc hs ?_
  intro r2 h2 hp
  obtain ⟨rfl, hR2⟩ := hk r2 h2 hp
  have := cont h2 hR2
  (iterate 1 (refine zS_one rfl ?_; simp (disch := (first | decide | assumption | omega)) only [i_push, i_null, i_ild, i_ald, i_ist, i_ast, i_inc, i_bin, i_div, i_un, i_dup, i_pop, i_dup2, i_if, i_icmp, i_nul, i_nnl, i_goto, i_getf, i_putf, i_gets, i_nald, i_nast, i_aald, i_aast, i_alen, i_new, i_newa, i_newq, i_math, i_oini, i_iret, i_zret, i_aret, i_vret, z_fit, List.getElem?_cons_zero, List.getElem?_cons_succ, List.set_cons_zero, List.set_cons_succ, Nat.reduceAdd, Nat.reduceLT, Nat.reduceLeDiff, Nat.reduceEqDiff, Nat.zero_lt_succ, Value.category, true_and, or_true, true_or, and_true, false_implies, true_implies, not_false_eq_true, not_true_eq_false, List.map_cons, List.map_nil, List.sum_cons, List.sum_nil, va_up_eq, bx_uu, va_up_lit, List.length_cons, List.length_nil, List.drop_succ_cons, List.drop_zero, Option.toList_some, Option.toList_none, List.cons_append, List.nil_append, w7]))
  exact this
set_option maxHeartbeats 4000000 in
theorem l_parts (hi : i + 5 < L) (hL : L ≤ 3072) (hR : RLe h) (hc : uc ≤ 600000) (hs : us ≤ 7302250) (cont : ∀ h', RLe h' → lwZ L xs 747 i h' uc us) : lwZ L xs 605 i h uc us := by
  obtain ⟨ns, n1, made, den1, n2, den2, G, m, ps, V, S, A, D, hR⟩ := hR
  have hb := hR.bd
  unfold lwZ at cont ⊢
  have w7 : ¬ (0 : Nat) = 1 := by decide
  have n1 : nI i + 1 = nI (i + 1) := nI_add i 1
  have v1 : vp_in (nI (i + 1)) L := vp_in_nI (by omega) (by omega)
  have c1 : (nI (i + 1)).toNatClampNeg = i + 1 := nI_clamp (by omega)
  (repeat (refine zS_one rfl ?_; simp (disch := (first | decide | assumption | omega)) only [i_push, i_null, i_ild, i_ald, i_ist, i_ast, i_inc, i_bin, i_div, i_un, i_dup, i_pop, i_dup2, i_if, i_icmp, i_nul, i_nnl, i_goto, i_getf, i_putf, i_gets, i_nald, i_nast, i_aald, i_aast, i_alen, i_new, i_newa, i_newq, i_math, i_oini, i_iret, i_zret, i_aret, i_vret, z_fit, List.getElem?_cons_zero, List.getElem?_cons_succ, List.set_cons_zero, List.set_cons_succ, Nat.reduceAdd, Nat.reduceLT, Nat.reduceLeDiff, Nat.reduceEqDiff, Nat.zero_lt_succ, Value.category, true_and, or_true, true_or, and_true, false_implies, true_implies, not_false_eq_true, not_true_eq_false, List.map_cons, List.map_nil, List.sum_cons, List.sum_nil, va_up_eq, bx_uu, va_up_lit, List.length_cons, List.length_nil, List.drop_succ_cons, List.drop_zero, Option.toList_some, Option.toList_none, List.cons_append, List.nil_append, w7, false_and, or_false, n1, v1, c1]))
  (try refine zS_one rfl ?_)
  refine r_callV (c_Stparts (L, xs) 5 hR.1 (xs (i + 1))) rfl rfl rfl rfl hR.1.1 hc hs ?_
  intro r h1 hq
  obtain ⟨v, P2, rfl, ⟨fs, hfs⟩, hz, hk⟩ := j_qP (sc := (L, xs)) (F := fun a => nI (ps a).length) (mi := 121) (as := [.int (xs (i + 1))]) hR.e hR.f (by omega) hq (c_Mparts (L, xs) 6 hR.2.1 (xs (i + 1)))
  (repeat (refine zS_one rfl ?_; simp (disch := (first | decide | assumption | omega)) only [i_push, i_null, i_ild, i_ald, i_ist, i_ast, i_inc, i_bin, i_div, i_un, i_dup, i_pop, i_dup2, i_if, i_icmp, i_nul, i_nnl, i_goto, i_getf, i_putf, i_gets, i_nald, i_nast, i_aald, i_aast, i_alen, i_new, i_newa, i_newq, i_math, i_oini, i_iret, i_zret, i_aret, i_vret, z_fit, List.getElem?_cons_zero, List.getElem?_cons_succ, List.set_cons_zero, List.set_cons_succ, Nat.reduceAdd, Nat.reduceLT, Nat.reduceLeDiff, Nat.reduceEqDiff, Nat.zero_lt_succ, Value.category, true_and, or_true, true_or, and_true, false_implies, true_implies, not_false_eq_true, not_true_eq_false, List.map_cons, List.map_nil, List.sum_cons, List.sum_nil, va_up_eq, bx_uu, va_up_lit, List.length_cons, List.length_nil, List.drop_succ_cons, List.drop_zero, Option.toList_some, Option.toList_none, List.cons_append, List.nil_append, w7, false_and, or_false, n1, v1, c1]))
  (try refine zS_one rfl ?_)
  refine r_callV hz rfl rfl rfl rfl hfs hc hs ?_
  intro r2 h2 hp
  obtain ⟨rfl, hR2⟩ := hk r2 h2 hp
  have := cont h2 hR2
  (iterate 1 (refine zS_one rfl ?_; simp (disch := (first | decide | assumption | omega)) only [i_push, i_null, i_ild, i_ald, i_ist, i_ast, i_inc, i_bin, i_div, i_un, i_dup, i_pop, i_dup2, i_if, i_icmp, i_nul, i_nnl, i_goto, i_getf, i_putf, i_gets, i_nald, i_nast, i_aald, i_aast, i_alen, i_new, i_newa, i_newq, i_math, i_oini, i_iret, i_zret, i_aret, i_vret, z_fit, List.getElem?_cons_zero, List.getElem?_cons_succ, List.set_cons_zero, List.set_cons_succ, Nat.reduceAdd, Nat.reduceLT, Nat.reduceLeDiff, Nat.reduceEqDiff, Nat.zero_lt_succ, Value.category, true_and, or_true, true_or, and_true, false_implies, true_implies, not_false_eq_true, not_true_eq_false, List.map_cons, List.map_nil, List.sum_cons, List.sum_nil, va_up_eq, bx_uu, va_up_lit, List.length_cons, List.length_nil, List.drop_succ_cons, List.drop_zero, Option.toList_some, Option.toList_none, List.cons_append, List.nil_append, w7]))
  exact this
set_option maxHeartbeats 4000000 in
theorem l_sees (hi : i + 5 < L) (hL : L ≤ 3072) (hR : RLe h) (hc : uc ≤ 600000) (hs : us ≤ 7302250) (cont : ∀ h', RLe h' → lwZ L xs 747 i h' uc us) : lwZ L xs 628 i h uc us := by
  obtain ⟨ns, n1, made, den1, n2, den2, G, m, ps, V, S, A, D, hR⟩ := hR
  have hb := hR.bd
  unfold lwZ at cont ⊢
  have w7 : ¬ (0 : Nat) = 1 := by decide
  have n1 : nI i + 1 = nI (i + 1) := nI_add i 1
  have v1 : vp_in (nI (i + 1)) L := vp_in_nI (by omega) (by omega)
  have c1 : (nI (i + 1)).toNatClampNeg = i + 1 := nI_clamp (by omega)
  have n2 : nI i + 2 = nI (i + 2) := nI_add i 2
  have v2 : vp_in (nI (i + 2)) L := vp_in_nI (by omega) (by omega)
  have c2 : (nI (i + 2)).toNatClampNeg = i + 2 := nI_clamp (by omega)
  (repeat (refine zS_one rfl ?_; simp (disch := (first | decide | assumption | omega)) only [i_push, i_null, i_ild, i_ald, i_ist, i_ast, i_inc, i_bin, i_div, i_un, i_dup, i_pop, i_dup2, i_if, i_icmp, i_nul, i_nnl, i_goto, i_getf, i_putf, i_gets, i_nald, i_nast, i_aald, i_aast, i_alen, i_new, i_newa, i_newq, i_math, i_oini, i_iret, i_zret, i_aret, i_vret, z_fit, List.getElem?_cons_zero, List.getElem?_cons_succ, List.set_cons_zero, List.set_cons_succ, Nat.reduceAdd, Nat.reduceLT, Nat.reduceLeDiff, Nat.reduceEqDiff, Nat.zero_lt_succ, Value.category, true_and, or_true, true_or, and_true, false_implies, true_implies, not_false_eq_true, not_true_eq_false, List.map_cons, List.map_nil, List.sum_cons, List.sum_nil, va_up_eq, bx_uu, va_up_lit, List.length_cons, List.length_nil, List.drop_succ_cons, List.drop_zero, Option.toList_some, Option.toList_none, List.cons_append, List.nil_append, w7, false_and, or_false, n1, v1, c1, n2, v2, c2]))
  (try refine zS_one rfl ?_)
  refine r_callV (c_Stsees (L, xs) 4 hR.1 (xs (i + 1)) (xs (i + 2))) rfl rfl rfl rfl hR.1.1 hc hs ?_
  intro r h1 hq
  obtain ⟨v, P2, rfl, ⟨fs, hfs⟩, hz, hk⟩ := j_sees (sc := (L, xs)) hR hq
  (repeat (refine zS_one rfl ?_; simp (disch := (first | decide | assumption | omega)) only [i_push, i_null, i_ild, i_ald, i_ist, i_ast, i_inc, i_bin, i_div, i_un, i_dup, i_pop, i_dup2, i_if, i_icmp, i_nul, i_nnl, i_goto, i_getf, i_putf, i_gets, i_nald, i_nast, i_aald, i_aast, i_alen, i_new, i_newa, i_newq, i_math, i_oini, i_iret, i_zret, i_aret, i_vret, z_fit, List.getElem?_cons_zero, List.getElem?_cons_succ, List.set_cons_zero, List.set_cons_succ, Nat.reduceAdd, Nat.reduceLT, Nat.reduceLeDiff, Nat.reduceEqDiff, Nat.zero_lt_succ, Value.category, true_and, or_true, true_or, and_true, false_implies, true_implies, not_false_eq_true, not_true_eq_false, List.map_cons, List.map_nil, List.sum_cons, List.sum_nil, va_up_eq, bx_uu, va_up_lit, List.length_cons, List.length_nil, List.drop_succ_cons, List.drop_zero, Option.toList_some, Option.toList_none, List.cons_append, List.nil_append, w7, false_and, or_false, n1, v1, c1, n2, v2, c2]))
  (try refine zS_one rfl ?_)
  refine r_callV hz rfl rfl rfl rfl hfs hc hs ?_
  intro r2 h2 hp
  obtain ⟨rfl, hR2⟩ := hk r2 h2 hp
  have := cont h2 hR2
  (iterate 1 (refine zS_one rfl ?_; simp (disch := (first | decide | assumption | omega)) only [i_push, i_null, i_ild, i_ald, i_ist, i_ast, i_inc, i_bin, i_div, i_un, i_dup, i_pop, i_dup2, i_if, i_icmp, i_nul, i_nnl, i_goto, i_getf, i_putf, i_gets, i_nald, i_nast, i_aald, i_aast, i_alen, i_new, i_newa, i_newq, i_math, i_oini, i_iret, i_zret, i_aret, i_vret, z_fit, List.getElem?_cons_zero, List.getElem?_cons_succ, List.set_cons_zero, List.set_cons_succ, Nat.reduceAdd, Nat.reduceLT, Nat.reduceLeDiff, Nat.reduceEqDiff, Nat.zero_lt_succ, Value.category, true_and, or_true, true_or, and_true, false_implies, true_implies, not_false_eq_true, not_true_eq_false, List.map_cons, List.map_nil, List.sum_cons, List.sum_nil, va_up_eq, bx_uu, va_up_lit, List.length_cons, List.length_nil, List.drop_succ_cons, List.drop_zero, Option.toList_some, Option.toList_none, List.cons_append, List.nil_append, w7]))
  exact this
set_option maxHeartbeats 4000000 in
theorem l_shown (hi : i + 5 < L) (hL : L ≤ 3072) (hR : RLe h) (hc : uc ≤ 600000) (hs : us ≤ 7302250) (cont : ∀ h', RLe h' → lwZ L xs 747 i h' uc us) : lwZ L xs 661 i h uc us := by
  obtain ⟨ns, n1, made, den1, n2, den2, G, m, ps, V, S, A, D, hR⟩ := hR
  have hb := hR.bd
  unfold lwZ at cont ⊢
  have w7 : ¬ (0 : Nat) = 1 := by decide
  have n1 : nI i + 1 = nI (i + 1) := nI_add i 1
  have v1 : vp_in (nI (i + 1)) L := vp_in_nI (by omega) (by omega)
  have c1 : (nI (i + 1)).toNatClampNeg = i + 1 := nI_clamp (by omega)
  have n2 : nI i + 2 = nI (i + 2) := nI_add i 2
  have v2 : vp_in (nI (i + 2)) L := vp_in_nI (by omega) (by omega)
  have c2 : (nI (i + 2)).toNatClampNeg = i + 2 := nI_clamp (by omega)
  (repeat (refine zS_one rfl ?_; simp (disch := (first | decide | assumption | omega)) only [i_push, i_null, i_ild, i_ald, i_ist, i_ast, i_inc, i_bin, i_div, i_un, i_dup, i_pop, i_dup2, i_if, i_icmp, i_nul, i_nnl, i_goto, i_getf, i_putf, i_gets, i_nald, i_nast, i_aald, i_aast, i_alen, i_new, i_newa, i_newq, i_math, i_oini, i_iret, i_zret, i_aret, i_vret, z_fit, List.getElem?_cons_zero, List.getElem?_cons_succ, List.set_cons_zero, List.set_cons_succ, Nat.reduceAdd, Nat.reduceLT, Nat.reduceLeDiff, Nat.reduceEqDiff, Nat.zero_lt_succ, Value.category, true_and, or_true, true_or, and_true, false_implies, true_implies, not_false_eq_true, not_true_eq_false, List.map_cons, List.map_nil, List.sum_cons, List.sum_nil, va_up_eq, bx_uu, va_up_lit, List.length_cons, List.length_nil, List.drop_succ_cons, List.drop_zero, Option.toList_some, Option.toList_none, List.cons_append, List.nil_append, w7, false_and, or_false, n1, v1, c1, n2, v2, c2]))
  (try refine zS_one rfl ?_)
  refine r_callV (c_Stshown (L, xs) 4 hR.1 (xs (i + 1)) (xs (i + 2))) rfl rfl rfl rfl hR.1.1 hc hs ?_
  intro r h1 hq
  obtain ⟨v, P2, rfl, ⟨fs, hfs⟩, hz, hk⟩ := j_shown (sc := (L, xs)) hR hq
  (repeat (refine zS_one rfl ?_; simp (disch := (first | decide | assumption | omega)) only [i_push, i_null, i_ild, i_ald, i_ist, i_ast, i_inc, i_bin, i_div, i_un, i_dup, i_pop, i_dup2, i_if, i_icmp, i_nul, i_nnl, i_goto, i_getf, i_putf, i_gets, i_nald, i_nast, i_aald, i_aast, i_alen, i_new, i_newa, i_newq, i_math, i_oini, i_iret, i_zret, i_aret, i_vret, z_fit, List.getElem?_cons_zero, List.getElem?_cons_succ, List.set_cons_zero, List.set_cons_succ, Nat.reduceAdd, Nat.reduceLT, Nat.reduceLeDiff, Nat.reduceEqDiff, Nat.zero_lt_succ, Value.category, true_and, or_true, true_or, and_true, false_implies, true_implies, not_false_eq_true, not_true_eq_false, List.map_cons, List.map_nil, List.sum_cons, List.sum_nil, va_up_eq, bx_uu, va_up_lit, List.length_cons, List.length_nil, List.drop_succ_cons, List.drop_zero, Option.toList_some, Option.toList_none, List.cons_append, List.nil_append, w7, false_and, or_false, n1, v1, c1, n2, v2, c2]))
  (try refine zS_one rfl ?_)
  refine r_callV hz rfl rfl rfl rfl hfs hc hs ?_
  intro r2 h2 hp
  obtain ⟨rfl, hR2⟩ := hk r2 h2 hp
  have := cont h2 hR2
  (iterate 1 (refine zS_one rfl ?_; simp (disch := (first | decide | assumption | omega)) only [i_push, i_null, i_ild, i_ald, i_ist, i_ast, i_inc, i_bin, i_div, i_un, i_dup, i_pop, i_dup2, i_if, i_icmp, i_nul, i_nnl, i_goto, i_getf, i_putf, i_gets, i_nald, i_nast, i_aald, i_aast, i_alen, i_new, i_newa, i_newq, i_math, i_oini, i_iret, i_zret, i_aret, i_vret, z_fit, List.getElem?_cons_zero, List.getElem?_cons_succ, List.set_cons_zero, List.set_cons_succ, Nat.reduceAdd, Nat.reduceLT, Nat.reduceLeDiff, Nat.reduceEqDiff, Nat.zero_lt_succ, Value.category, true_and, or_true, true_or, and_true, false_implies, true_implies, not_false_eq_true, not_true_eq_false, List.map_cons, List.map_nil, List.sum_cons, List.sum_nil, va_up_eq, bx_uu, va_up_lit, List.length_cons, List.length_nil, List.drop_succ_cons, List.drop_zero, Option.toList_some, Option.toList_none, List.cons_append, List.nil_append, w7]))
  exact this
set_option maxHeartbeats 4000000 in
theorem l_same (hi : i + 5 < L) (hL : L ≤ 3072) (hR : RLe h) (hc : uc ≤ 600000) (hs : us ≤ 7302250) (cont : ∀ h', RLe h' → lwZ L xs 747 i h' uc us) : lwZ L xs 694 i h uc us := by
  obtain ⟨ns, n1, made, den1, n2, den2, G, m, ps, V, S, A, D, hR⟩ := hR
  have hb := hR.bd
  unfold lwZ at cont ⊢
  have w7 : ¬ (0 : Nat) = 1 := by decide
  have n1 : nI i + 1 = nI (i + 1) := nI_add i 1
  have v1 : vp_in (nI (i + 1)) L := vp_in_nI (by omega) (by omega)
  have c1 : (nI (i + 1)).toNatClampNeg = i + 1 := nI_clamp (by omega)
  have n2 : nI i + 2 = nI (i + 2) := nI_add i 2
  have v2 : vp_in (nI (i + 2)) L := vp_in_nI (by omega) (by omega)
  have c2 : (nI (i + 2)).toNatClampNeg = i + 2 := nI_clamp (by omega)
  have n3 : nI i + 3 = nI (i + 3) := nI_add i 3
  have v3 : vp_in (nI (i + 3)) L := vp_in_nI (by omega) (by omega)
  have c3 : (nI (i + 3)).toNatClampNeg = i + 3 := nI_clamp (by omega)
  have n4 : nI i + 4 = nI (i + 4) := nI_add i 4
  have v4 : vp_in (nI (i + 4)) L := vp_in_nI (by omega) (by omega)
  have c4 : (nI (i + 4)).toNatClampNeg = i + 4 := nI_clamp (by omega)
  (repeat (refine zS_one rfl ?_; simp (disch := (first | decide | assumption | omega)) only [i_push, i_null, i_ild, i_ald, i_ist, i_ast, i_inc, i_bin, i_div, i_un, i_dup, i_pop, i_dup2, i_if, i_icmp, i_nul, i_nnl, i_goto, i_getf, i_putf, i_gets, i_nald, i_nast, i_aald, i_aast, i_alen, i_new, i_newa, i_newq, i_math, i_oini, i_iret, i_zret, i_aret, i_vret, z_fit, List.getElem?_cons_zero, List.getElem?_cons_succ, List.set_cons_zero, List.set_cons_succ, Nat.reduceAdd, Nat.reduceLT, Nat.reduceLeDiff, Nat.reduceEqDiff, Nat.zero_lt_succ, Value.category, true_and, or_true, true_or, and_true, false_implies, true_implies, not_false_eq_true, not_true_eq_false, List.map_cons, List.map_nil, List.sum_cons, List.sum_nil, va_up_eq, bx_uu, va_up_lit, List.length_cons, List.length_nil, List.drop_succ_cons, List.drop_zero, Option.toList_some, Option.toList_none, List.cons_append, List.nil_append, w7, false_and, or_false, n1, v1, c1, n2, v2, c2, n3, v3, c3, n4, v4, c4]))
  (try refine zS_one rfl ?_)
  refine r_callV (c_Stsame (L, xs) 4 hR.1 (xs (i + 1)) (xs (i + 2)) (xs (i + 3)) (xs (i + 4))) rfl rfl rfl rfl hR.1.1 hc hs ?_
  intro r h1 hq
  obtain ⟨v, P2, rfl, ⟨fs, hfs⟩, hz, hk⟩ := j_same (sc := (L, xs)) hR hq
  (repeat (refine zS_one rfl ?_; simp (disch := (first | decide | assumption | omega)) only [i_push, i_null, i_ild, i_ald, i_ist, i_ast, i_inc, i_bin, i_div, i_un, i_dup, i_pop, i_dup2, i_if, i_icmp, i_nul, i_nnl, i_goto, i_getf, i_putf, i_gets, i_nald, i_nast, i_aald, i_aast, i_alen, i_new, i_newa, i_newq, i_math, i_oini, i_iret, i_zret, i_aret, i_vret, z_fit, List.getElem?_cons_zero, List.getElem?_cons_succ, List.set_cons_zero, List.set_cons_succ, Nat.reduceAdd, Nat.reduceLT, Nat.reduceLeDiff, Nat.reduceEqDiff, Nat.zero_lt_succ, Value.category, true_and, or_true, true_or, and_true, false_implies, true_implies, not_false_eq_true, not_true_eq_false, List.map_cons, List.map_nil, List.sum_cons, List.sum_nil, va_up_eq, bx_uu, va_up_lit, List.length_cons, List.length_nil, List.drop_succ_cons, List.drop_zero, Option.toList_some, Option.toList_none, List.cons_append, List.nil_append, w7, false_and, or_false, n1, v1, c1, n2, v2, c2, n3, v3, c3, n4, v4, c4]))
  (try refine zS_one rfl ?_)
  refine r_callV hz rfl rfl rfl rfl hfs hc hs ?_
  intro r2 h2 hp
  obtain ⟨rfl, hR2⟩ := hk r2 h2 hp
  have := cont h2 hR2
  (iterate 1 (refine zS_one rfl ?_; simp (disch := (first | decide | assumption | omega)) only [i_push, i_null, i_ild, i_ald, i_ist, i_ast, i_inc, i_bin, i_div, i_un, i_dup, i_pop, i_dup2, i_if, i_icmp, i_nul, i_nnl, i_goto, i_getf, i_putf, i_gets, i_nald, i_nast, i_aald, i_aast, i_alen, i_new, i_newa, i_newq, i_math, i_oini, i_iret, i_zret, i_aret, i_vret, z_fit, List.getElem?_cons_zero, List.getElem?_cons_succ, List.set_cons_zero, List.set_cons_succ, Nat.reduceAdd, Nat.reduceLT, Nat.reduceLeDiff, Nat.reduceEqDiff, Nat.zero_lt_succ, Value.category, true_and, or_true, true_or, and_true, false_implies, true_implies, not_false_eq_true, not_true_eq_false, List.map_cons, List.map_nil, List.sum_cons, List.sum_nil, va_up_eq, bx_uu, va_up_lit, List.length_cons, List.length_nil, List.drop_succ_cons, List.drop_zero, Option.toList_some, Option.toList_none, List.cons_append, List.nil_append, w7]))
  exact this
set_option maxHeartbeats 4000000 in
theorem l_start (hi : i + 5 < L) (hL : L ≤ 3072) (hR : RLe h) (hc : uc + 5 ≤ 600000) (hs : us + 98 ≤ 7302250) (cont : ∀ h', RLe h' → lwZ L xs 747 i h' (uc + 5) (us + 98)) : lwZ L xs 124 i h uc us := by
  obtain ⟨ns, n1, made, den1, n2, den2, G, m, ps, V, S, A, D, hR⟩ := hR
  have hb := hR.bd
  unfold lwZ at cont ⊢
  have q10 : ¬ (1 : Int32) = 0 := by decide
  have w7 : ¬ (0 : Nat) = 1 := by decide
  have n1 : nI i + 1 = nI (i + 1) := nI_add i 1
  have v1 : vp_in (nI (i + 1)) L := vp_in_nI (by omega) (by omega)
  have c1 : (nI (i + 1)).toNatClampNeg = i + 1 := nI_clamp (by omega)
  have n2 : nI i + 2 = nI (i + 2) := nI_add i 2
  have v2 : vp_in (nI (i + 2)) L := vp_in_nI (by omega) (by omega)
  have c2 : (nI (i + 2)).toNatClampNeg = i + 2 := nI_clamp (by omega)
  have n3 : nI i + 3 = nI (i + 3) := nI_add i 3
  have v3 : vp_in (nI (i + 3)) L := vp_in_nI (by omega) (by omega)
  have c3 : (nI (i + 3)).toNatClampNeg = i + 3 := nI_clamp (by omega)
  have n4 : nI i + 4 = nI (i + 4) := nI_add i 4
  have v4 : vp_in (nI (i + 4)) L := vp_in_nI (by omega) (by omega)
  have c4 : (nI (i + 4)).toNatClampNeg = i + 4 := nI_clamp (by omega)
  have n5 : nI i + 5 = nI (i + 5) := nI_add i 5
  have v5 : vp_in (nI (i + 5)) L := vp_in_nI (by omega) (by omega)
  have c5 : (nI (i + 5)).toNatClampNeg = i + 5 := nI_clamp (by omega)
  have run : ∀ b : Int32, (b = 0 ∨ b = 1) → (b = 0 ↔ xs (i + 2) = 0) → zS (zMt zTab (L, xs) 8, (600000, 7302250), (L, xs)) k_La_law (fun r _ => r = some (.int 1)) (143, [some (.retAddr 0), some (.ref 0), some (.ref 15), some (.int (nI i))], [.int b, .int (xs (i + 1)), .ref 0], h, uc, us) := by
    intro b hb2 hbx
    (repeat (refine zS_one rfl ?_; simp (disch := (first | decide | assumption | omega)) only [i_push, i_null, i_ild, i_ald, i_ist, i_ast, i_inc, i_bin, i_div, i_un, i_dup, i_pop, i_dup2, i_if, i_icmp, i_nul, i_nnl, i_goto, i_getf, i_putf, i_gets, i_nald, i_nast, i_aald, i_aast, i_alen, i_new, i_newa, i_newq, i_math, i_oini, i_iret, i_zret, i_aret, i_vret, z_fit, List.getElem?_cons_zero, List.getElem?_cons_succ, List.set_cons_zero, List.set_cons_succ, Nat.reduceAdd, Nat.reduceLT, Nat.reduceLeDiff, Nat.reduceEqDiff, Nat.zero_lt_succ, Value.category, true_and, or_true, true_or, and_true, false_implies, true_implies, not_false_eq_true, not_true_eq_false, List.map_cons, List.map_nil, List.sum_cons, List.sum_nil, va_up_eq, bx_uu, va_up_lit, List.length_cons, List.length_nil, List.drop_succ_cons, List.drop_zero, Option.toList_some, Option.toList_none, List.cons_append, List.nil_append, w7, false_and, or_false, n1, v1, c1, n2, v2, c2, n3, v3, c3, n4, v4, c4, n5, v5, c5]))
    (try refine zS_one rfl ?_)
    refine r_callV (c_Ststart (L, xs) 2 hR.1 (by omega) (p := xs (i + 1)) (i := b) (own := xs (i + 3)) (oth := xs (i + 4)) (prol := xs (i + 5)) hb2) rfl rfl rfl rfl hR.1.1 hc hs ?_
    intro r h1 hq
    obtain ⟨v, P2, rfl, ⟨fs, hfs⟩, hz, hk⟩ := j_start (sc := (L, xs)) hb2 hR hq
    have run2 : zS (zMt zTab (L, xs) 8, (600000, 7302250), (L, xs)) k_La_law (fun r _ => r = some (.int 1)) (180, [some (.retAddr 0), some (.ref 0), some (.ref 15), some (.int (nI i))], [.int b, .int (xs (i + 1)), .ref 15, .int v], h1, uc + 5, us + 98) := by
      (repeat (refine zS_one rfl ?_; simp (disch := (first | decide | assumption | omega)) only [i_push, i_null, i_ild, i_ald, i_ist, i_ast, i_inc, i_bin, i_div, i_un, i_dup, i_pop, i_dup2, i_if, i_icmp, i_nul, i_nnl, i_goto, i_getf, i_putf, i_gets, i_nald, i_nast, i_aald, i_aast, i_alen, i_new, i_newa, i_newq, i_math, i_oini, i_iret, i_zret, i_aret, i_vret, z_fit, List.getElem?_cons_zero, List.getElem?_cons_succ, List.set_cons_zero, List.set_cons_succ, Nat.reduceAdd, Nat.reduceLT, Nat.reduceLeDiff, Nat.reduceEqDiff, Nat.zero_lt_succ, Value.category, true_and, or_true, true_or, and_true, false_implies, true_implies, not_false_eq_true, not_true_eq_false, List.map_cons, List.map_nil, List.sum_cons, List.sum_nil, va_up_eq, bx_uu, va_up_lit, List.length_cons, List.length_nil, List.drop_succ_cons, List.drop_zero, Option.toList_some, Option.toList_none, List.cons_append, List.nil_append, w7, false_and, or_false, n1, v1, c1, n2, v2, c2, n3, v3, c3, n4, v4, c4, n5, v5, c5]))
      (try refine zS_one rfl ?_)
      refine r_callV hz rfl rfl rfl rfl hfs hc hs ?_
      intro r2 h2 hp
      obtain ⟨rfl, hR2⟩ := hk r2 h2 hp
      have := cont h2 hR2
      (iterate 1 (refine zS_one rfl ?_; simp (disch := (first | decide | assumption | omega)) only [i_push, i_null, i_ild, i_ald, i_ist, i_ast, i_inc, i_bin, i_div, i_un, i_dup, i_pop, i_dup2, i_if, i_icmp, i_nul, i_nnl, i_goto, i_getf, i_putf, i_gets, i_nald, i_nast, i_aald, i_aast, i_alen, i_new, i_newa, i_newq, i_math, i_oini, i_iret, i_zret, i_aret, i_vret, z_fit, List.getElem?_cons_zero, List.getElem?_cons_succ, List.set_cons_zero, List.set_cons_succ, Nat.reduceAdd, Nat.reduceLT, Nat.reduceLeDiff, Nat.reduceEqDiff, Nat.zero_lt_succ, Value.category, true_and, or_true, true_or, and_true, false_implies, true_implies, not_false_eq_true, not_true_eq_false, List.map_cons, List.map_nil, List.sum_cons, List.sum_nil, va_up_eq, bx_uu, va_up_lit, List.length_cons, List.length_nil, List.drop_succ_cons, List.drop_zero, Option.toList_some, Option.toList_none, List.cons_append, List.nil_append, w7]))
      exact this
    by_cases z : xs (i + 2) = 0
    · have e := hbx.mpr z
      subst e
      (iterate 13 (refine zS_one rfl ?_; simp (disch := (first | decide | assumption | omega)) only [i_push, i_null, i_ild, i_ald, i_ist, i_ast, i_inc, i_bin, i_div, i_un, i_dup, i_pop, i_dup2, i_if, i_icmp, i_nul, i_nnl, i_goto, i_getf, i_putf, i_gets, i_nald, i_nast, i_aald, i_aast, i_alen, i_new, i_newa, i_newq, i_math, i_oini, i_iret, i_zret, i_aret, i_vret, z_fit, List.getElem?_cons_zero, List.getElem?_cons_succ, List.set_cons_zero, List.set_cons_succ, Nat.reduceAdd, Nat.reduceLT, Nat.reduceLeDiff, Nat.reduceEqDiff, Nat.zero_lt_succ, Value.category, true_and, or_true, true_or, and_true, false_implies, true_implies, not_false_eq_true, not_true_eq_false, List.map_cons, List.map_nil, List.sum_cons, List.sum_nil, va_up_eq, bx_uu, va_up_lit, List.length_cons, List.length_nil, List.drop_succ_cons, List.drop_zero, Option.toList_some, Option.toList_none, List.cons_append, List.nil_append, w7, false_and, or_false, n1, v1, c1, n2, v2, c2, n3, v3, c3, n4, v4, c4, n5, v5, c5, z]))
      exact run2
    · have e : b = 1 := hb2.resolve_left (fun q => z (hbx.mp q))
      subst e
      (iterate 14 (refine zS_one rfl ?_; simp (disch := (first | decide | assumption | omega)) only [i_push, i_null, i_ild, i_ald, i_ist, i_ast, i_inc, i_bin, i_div, i_un, i_dup, i_pop, i_dup2, i_if, i_icmp, i_nul, i_nnl, i_goto, i_getf, i_putf, i_gets, i_nald, i_nast, i_aald, i_aast, i_alen, i_new, i_newa, i_newq, i_math, i_oini, i_iret, i_zret, i_aret, i_vret, z_fit, List.getElem?_cons_zero, List.getElem?_cons_succ, List.set_cons_zero, List.set_cons_succ, Nat.reduceAdd, Nat.reduceLT, Nat.reduceLeDiff, Nat.reduceEqDiff, Nat.zero_lt_succ, Value.category, true_and, or_true, true_or, and_true, false_implies, true_implies, not_false_eq_true, not_true_eq_false, List.map_cons, List.map_nil, List.sum_cons, List.sum_nil, va_up_eq, bx_uu, va_up_lit, List.length_cons, List.length_nil, List.drop_succ_cons, List.drop_zero, Option.toList_some, Option.toList_none, List.cons_append, List.nil_append, w7, false_and, or_false, n1, v1, c1, n2, v2, c2, n3, v3, c3, n4, v4, c4, n5, v5, c5, z]))
      exact run2
  by_cases z : xs (i + 2) = 0
  · have := run 0 (Or.inl rfl) ⟨fun _ => z, fun _ => rfl⟩
    (iterate 13 (refine zS_one rfl ?_; simp (disch := (first | decide | assumption | omega)) only [i_push, i_null, i_ild, i_ald, i_ist, i_ast, i_inc, i_bin, i_div, i_un, i_dup, i_pop, i_dup2, i_if, i_icmp, i_nul, i_nnl, i_goto, i_getf, i_putf, i_gets, i_nald, i_nast, i_aald, i_aast, i_alen, i_new, i_newa, i_newq, i_math, i_oini, i_iret, i_zret, i_aret, i_vret, z_fit, List.getElem?_cons_zero, List.getElem?_cons_succ, List.set_cons_zero, List.set_cons_succ, Nat.reduceAdd, Nat.reduceLT, Nat.reduceLeDiff, Nat.reduceEqDiff, Nat.zero_lt_succ, Value.category, true_and, or_true, true_or, and_true, false_implies, true_implies, not_false_eq_true, not_true_eq_false, List.map_cons, List.map_nil, List.sum_cons, List.sum_nil, va_up_eq, bx_uu, va_up_lit, List.length_cons, List.length_nil, List.drop_succ_cons, List.drop_zero, Option.toList_some, Option.toList_none, List.cons_append, List.nil_append, w7, false_and, or_false, n1, v1, c1, n2, v2, c2, n3, v3, c3, n4, v4, c4, n5, v5, c5, z]))
    exact this
  · have := run 1 (Or.inr rfl) ⟨fun q => absurd q q10, fun q => absurd q z⟩
    (iterate 14 (refine zS_one rfl ?_; simp (disch := (first | decide | assumption | omega)) only [i_push, i_null, i_ild, i_ald, i_ist, i_ast, i_inc, i_bin, i_div, i_un, i_dup, i_pop, i_dup2, i_if, i_icmp, i_nul, i_nnl, i_goto, i_getf, i_putf, i_gets, i_nald, i_nast, i_aald, i_aast, i_alen, i_new, i_newa, i_newq, i_math, i_oini, i_iret, i_zret, i_aret, i_vret, z_fit, List.getElem?_cons_zero, List.getElem?_cons_succ, List.set_cons_zero, List.set_cons_succ, Nat.reduceAdd, Nat.reduceLT, Nat.reduceLeDiff, Nat.reduceEqDiff, Nat.zero_lt_succ, Value.category, true_and, or_true, true_or, and_true, false_implies, true_implies, not_false_eq_true, not_true_eq_false, List.map_cons, List.map_nil, List.sum_cons, List.sum_nil, va_up_eq, bx_uu, va_up_lit, List.length_cons, List.length_nil, List.drop_succ_cons, List.drop_zero, Option.toList_some, Option.toList_none, List.cons_append, List.nil_append, w7, false_and, or_false, n1, v1, c1, n2, v2, c2, n3, v3, c3, n4, v4, c4, n5, v5, c5, z]))
    exact this
end LW
