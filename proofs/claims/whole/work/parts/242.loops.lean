/-! Terms: dropBehind, giveAway. -/
theorem pk_m1' (n : Nat) : nI (n + 1) - 1 = nI n := by
  rw [← nI_1]
  exact Int32.add_sub_cancel _ _
theorem TI_drop {T : Nat → Nat → Int32} {n k : Nat} {den : Nat → zT} {j : Nat} (hI : TI T (n + 1) k den) (hj : j < 128) (hb : bkT T (n + 1) = nI j) : TI (fun i => if i = 7 then upd (T 7) j (T 6 (n + 1)) else T i) n k den := by
  obtain ⟨i1, i2, i3, i4, i5, i6, i7, i8, i9, i10⟩ := hI
  refine ⟨by omega, i2, i3, i4, i5, fun t h1 h2 => i6 t h1 (by omega), fun t u h1 h2 h3 h4 => i7 t u h1 (by omega) h3 (by omega), fun t h1 h2 => i8 t h1 (by omega), fun t h1 h2 => i9 t h1 (by omega), fun q hq => ?_⟩
  show ∃ x, x ≤ n ∧ upd (T 7) j (T 6 (n + 1)) q = nI x ∧ (x = 0 ∨ bkT T x = nI q) ∧ ∀ u, x < u → u ≤ n → bkT T u ≠ nI q
  by_cases hqj : q = j
  · subst hqj
    obtain ⟨x, hx, hx6, hxb, hxu⟩ := i9 (n + 1) (by omega) (Nat.le_refl _)
    rw [upd_s]
    rw [hb] at hxb hxu
    exact ⟨x, by omega, hx6, hxb, fun u h1 h2 => hxu u h1 (by omega)⟩
  · rw [upd_n hqj]
    obtain ⟨x, hx, hx7, hxb, hxu⟩ := i10 q hq
    have hxn : x ≠ n + 1 := by
      intro e
      subst e
      rcases hxb with hxb | hxb
      · omega
      · exact hqj (nI_inj (by omega) (by omega) (hxb.symm.trans hb))
    exact ⟨x, by omega, hx7, hxb, fun u h1 h2 => hxu u h1 (by omega)⟩
set_option maxHeartbeats 4000000 in
theorem c_dropBehind (sc : Nat × (Nat → Int32)) (d : Nat) {h0 : zH} {n k m : Nat} {den : Nat → zT} {G : Nat → Int32} (hO : tOK h0 n k den G) (hm : m ≤ n) : zMt zTab sc (d + 2) 52 [.ref 1, .int (nI m)] h0 0 0 (fun r h' => r = none ∧ tOK h' m k den G ∧ fr 1 10 h0 h') := by
  refine zM_gen fun P hP => ?_
  refine zM_start (r := r_Te_dropBehind) (cd := k_Te_dropBehind) (L0 := [some (.ref 1), some (.int (nI m)), none, none]) rfl rfl rfl rfl rfl ?_
  have hloop : ∀ (c t : Nat) (h1 : zH) (x : Option Value), t = m + c → t < 720 → tOK h1 t k den G → fr 1 10 h0 h1 → zS (zMt zTab sc (d + 1), (0, 0), sc) k_Te_dropBehind P (5, [some (.ref 1), some (.int (nI m)), some (.int (nI t)), x], [], h1, 0, 0) := by
    intro c
    induction c with
    | zero =>
      intro t h1 x ht ht7 hO hf
      have ht' : t = m := ht
      subst ht'
      have w1 : nI t ≤ nI t := nI_le (Nat.le_refl _) (by omega)
      (repeat (refine zS_one rfl ?_; simp (disch := (first | decide | assumption | omega)) only [i_push, i_null, i_ild, i_ald, i_ist, i_ast, i_inc, i_bin, i_div, i_un, i_dup, i_pop, i_dup2, i_if, i_icmp, i_nul, i_nnl, i_goto, i_getf, i_putf, i_gets, i_nald, i_nast, i_aald, i_aast, i_alen, i_new, i_newa, i_newq, i_math, i_oini, i_iret, i_zret, i_aret, i_vret, z_fit, List.getElem?_cons_zero, List.getElem?_cons_succ, List.set_cons_zero, List.set_cons_succ, Nat.reduceAdd, Nat.reduceLT, Nat.reduceLeDiff, Nat.reduceEqDiff, Nat.zero_lt_succ, Value.category, true_and, or_true, true_or, and_true, false_implies, true_implies, not_false_eq_true, not_true_eq_false, List.map_cons, List.map_nil, List.sum_cons, List.sum_nil, va_up_eq, bx_uu, va_up_lit, List.length_cons, List.length_nil, List.drop_succ_cons, List.drop_zero, Option.toList_some, Option.toList_none, List.cons_append, List.nil_append, w1]))
      exact hP _ _ ⟨rfl, hO, hf⟩
    | succ c ih =>
      intro t h1 x ht ht7 hO hf
      obtain ⟨u, rfl⟩ : ∃ u, t = u + 1 := ⟨t - 1, by omega⟩
      obtain ⟨T, ⟨e1, e2, e3, e4, e5, e6, e7, e8, e9, e10⟩, hI, hG⟩ := hO
      have w1 : ¬ nI (u + 1) ≤ nI m := nI_ge (by omega) (by omega)
      have v1 := in720 (t := u + 1) ht7
      have v2 := cl720 (t := u + 1) ht7
      (repeat (refine zS_one rfl ?_; simp (disch := (first | decide | assumption | omega)) only [i_push, i_null, i_ild, i_ald, i_ist, i_ast, i_inc, i_bin, i_div, i_un, i_dup, i_pop, i_dup2, i_if, i_icmp, i_nul, i_nnl, i_goto, i_getf, i_putf, i_gets, i_nald, i_nast, i_aald, i_aast, i_alen, i_new, i_newa, i_newq, i_math, i_oini, i_iret, i_zret, i_aret, i_vret, z_fit, List.getElem?_cons_zero, List.getElem?_cons_succ, List.set_cons_zero, List.set_cons_succ, Nat.reduceAdd, Nat.reduceLT, Nat.reduceLeDiff, Nat.reduceEqDiff, Nat.zero_lt_succ, Value.category, true_and, or_true, true_or, and_true, false_implies, true_implies, not_false_eq_true, not_true_eq_false, List.map_cons, List.map_nil, List.sum_cons, List.sum_nil, va_up_eq, bx_uu, va_up_lit, List.length_cons, List.length_nil, List.drop_succ_cons, List.drop_zero, Option.toList_some, Option.toList_none, List.cons_append, List.nil_append, w1, e1, e2, e3, e4, e5, e6, v1, v2]))
      (try refine zS_one rfl ?_)
      refine r_callS (c_bucketOf sc d h1 _ _ _ _ _) rfl rfl rfl rfl (Nat.le_refl _) (Nat.le_refl _) ?_
      rintro r h' ⟨rfl, rfl⟩
      obtain ⟨j, hj, hbj⟩ := bkt_in (T 0 (u + 1)) (T 1 (u + 1)) (T 2 (u + 1)) (T 3 (u + 1)) (T 4 (u + 1))
      have w2 : vp_in (nI j) 128 := vp_in_nI hj (by decide)
      have w3 : (nI j).toNatClampNeg = j := nI_clamp (by omega)
      rw [hbj]
      have w4 : nI (u + 1) + -1 = nI u := pk_m1 u
      (iterate 16 (refine zS_one rfl ?_; simp (disch := (first | decide | assumption | omega)) only [i_push, i_null, i_ild, i_ald, i_ist, i_ast, i_inc, i_bin, i_div, i_un, i_dup, i_pop, i_dup2, i_if, i_icmp, i_nul, i_nnl, i_goto, i_getf, i_putf, i_gets, i_nald, i_nast, i_aald, i_aast, i_alen, i_new, i_newa, i_newq, i_math, i_oini, i_iret, i_zret, i_aret, i_vret, z_fit, List.getElem?_cons_zero, List.getElem?_cons_succ, List.set_cons_zero, List.set_cons_succ, Nat.reduceAdd, Nat.reduceLT, Nat.reduceLeDiff, Nat.reduceEqDiff, Nat.zero_lt_succ, Value.category, true_and, or_true, true_or, and_true, false_implies, true_implies, not_false_eq_true, not_true_eq_false, List.map_cons, List.map_nil, List.sum_cons, List.sum_nil, va_up_eq, bx_uu, va_up_lit, List.length_cons, List.length_nil, List.drop_succ_cons, List.drop_zero, Option.toList_some, Option.toList_none, List.cons_append, List.nil_append, e1, e8, e9, v1, v2, w2, w3, pk_m1', w4]))
      refine ih u _ _ (by omega) (by omega) ⟨fun i => if i = 7 then upd (T 7) j (T 6 (u + 1)) else T i, ⟨rfl, e2, e3, e4, e5, e6, e7, e8, rfl, e10⟩, TI_drop hI hj hbj, hG⟩ (hf.tr ⟨fun q hq => ?_, rfl⟩)
      simp (disch := omega) only [va_up_lit]
  have e1 := hO.o
  have hn : n < 720 := by
    obtain ⟨T, -, hI, -⟩ := hO
    exact hI.1
  (iterate 3 (refine zS_one rfl ?_; simp (disch := (first | decide | assumption | omega)) only [i_push, i_null, i_ild, i_ald, i_ist, i_ast, i_inc, i_bin, i_div, i_un, i_dup, i_pop, i_dup2, i_if, i_icmp, i_nul, i_nnl, i_goto, i_getf, i_putf, i_gets, i_nald, i_nast, i_aald, i_aast, i_alen, i_new, i_newa, i_newq, i_math, i_oini, i_iret, i_zret, i_aret, i_vret, z_fit, List.getElem?_cons_zero, List.getElem?_cons_succ, List.set_cons_zero, List.set_cons_succ, Nat.reduceAdd, Nat.reduceLT, Nat.reduceLeDiff, Nat.reduceEqDiff, Nat.zero_lt_succ, Value.category, true_and, or_true, true_or, and_true, false_implies, true_implies, not_false_eq_true, not_true_eq_false, List.map_cons, List.map_nil, List.sum_cons, List.sum_nil, va_up_eq, bx_uu, va_up_lit, List.length_cons, List.length_nil, List.drop_succ_cons, List.drop_zero, Option.toList_some, Option.toList_none, List.cons_append, List.nil_append, e1]))
  exact hloop (n - m) n h0 none (by omega) hn hO fr.rf
def gvT (T : Nat → Nat → Int32) (N G : Nat → Int32) : Nat → Nat → Int32 := fun i => if i = 5 then N else if i = 8 then G else T i
set_option maxHeartbeats 4000000 in
theorem c_giveAway (sc : Nat × (Nat → Int32)) (d : Nat) {h0 : zH} {n k : Nat} {den : Nat → zT} {G : Nat → Int32} (hO : tOK h0 n k den G) (key : Int32) : zMt zTab sc (d + 2) 50 [.ref 1, .int key] h0 0 0 (fun r h' => (r = some (.int 0) ∧ h' = h0 ∧ (key < 1 ∨ nI k < key ∨ ∃ p, 0 < p ∧ p ≤ k ∧ key = nI p ∧ ¬ G p = 0)) ∨ (r = some (.int 1) ∧ fr 1 10 h0 h' ∧ ∃ p, 0 < p ∧ p ≤ k ∧ key = nI p ∧ G p = 0 ∧ tOK h' n k den (upd G p 1))) := by
  have hO0 := hO
  obtain ⟨T, ⟨e1, e2, e3, e4, e5, e6, e7, e8, e9, e10⟩, hI, hG⟩ := hO
  obtain ⟨i1, i2, i3, i4, i5, i6, i7, i8, i9, i10⟩ := hI
  refine zM_gen fun P hP => ?_
  refine zM_start (r := r_Te_giveAway) (cd := k_Te_giveAway) (L0 := [some (.ref 1), some (.int key), none]) rfl rfl rfl rfl rfl ?_
  (repeat (refine zS_one rfl ?_; simp (disch := (first | decide | assumption | omega)) only [i_push, i_null, i_ild, i_ald, i_ist, i_ast, i_inc, i_bin, i_div, i_un, i_dup, i_pop, i_dup2, i_if, i_icmp, i_nul, i_nnl, i_goto, i_getf, i_putf, i_gets, i_nald, i_nast, i_aald, i_aast, i_alen, i_new, i_newa, i_newq, i_math, i_oini, i_iret, i_zret, i_aret, i_vret, z_fit, List.getElem?_cons_zero, List.getElem?_cons_succ, List.set_cons_zero, List.set_cons_succ, Nat.reduceAdd, Nat.reduceLT, Nat.reduceLeDiff, Nat.reduceEqDiff, Nat.zero_lt_succ, Value.category, true_and, or_true, true_or, and_true, false_implies, true_implies, not_false_eq_true, not_true_eq_false, List.map_cons, List.map_nil, List.sum_cons, List.sum_nil, va_up_eq, bx_uu, va_up_lit, List.length_cons, List.length_nil, List.drop_succ_cons, List.drop_zero, Option.toList_some, Option.toList_none, List.cons_append, List.nil_append]))
  refine ⟨fun q => ?_, fun q1 => ?_⟩
  · (repeat (refine zS_one rfl ?_; simp (disch := (first | decide | assumption | omega)) only [i_push, i_null, i_ild, i_ald, i_ist, i_ast, i_inc, i_bin, i_div, i_un, i_dup, i_pop, i_dup2, i_if, i_icmp, i_nul, i_nnl, i_goto, i_getf, i_putf, i_gets, i_nald, i_nast, i_aald, i_aast, i_alen, i_new, i_newa, i_newq, i_math, i_oini, i_iret, i_zret, i_aret, i_vret, z_fit, List.getElem?_cons_zero, List.getElem?_cons_succ, List.set_cons_zero, List.set_cons_succ, Nat.reduceAdd, Nat.reduceLT, Nat.reduceLeDiff, Nat.reduceEqDiff, Nat.zero_lt_succ, Value.category, true_and, or_true, true_or, and_true, false_implies, true_implies, not_false_eq_true, not_true_eq_false, List.map_cons, List.map_nil, List.sum_cons, List.sum_nil, va_up_eq, bx_uu, va_up_lit, List.length_cons, List.length_nil, List.drop_succ_cons, List.drop_zero, Option.toList_some, Option.toList_none, List.cons_append, List.nil_append]))
    exact hP _ _ (Or.inl ⟨rfl, rfl, Or.inl q⟩)
  (repeat (refine zS_one rfl ?_; simp (disch := (first | decide | assumption | omega)) only [i_push, i_null, i_ild, i_ald, i_ist, i_ast, i_inc, i_bin, i_div, i_un, i_dup, i_pop, i_dup2, i_if, i_icmp, i_nul, i_nnl, i_goto, i_getf, i_putf, i_gets, i_nald, i_nast, i_aald, i_aast, i_alen, i_new, i_newa, i_newq, i_math, i_oini, i_iret, i_zret, i_aret, i_vret, z_fit, List.getElem?_cons_zero, List.getElem?_cons_succ, List.set_cons_zero, List.set_cons_succ, Nat.reduceAdd, Nat.reduceLT, Nat.reduceLeDiff, Nat.reduceEqDiff, Nat.zero_lt_succ, Value.category, true_and, or_true, true_or, and_true, false_implies, true_implies, not_false_eq_true, not_true_eq_false, List.map_cons, List.map_nil, List.sum_cons, List.sum_nil, va_up_eq, bx_uu, va_up_lit, List.length_cons, List.length_nil, List.drop_succ_cons, List.drop_zero, Option.toList_some, Option.toList_none, List.cons_append, List.nil_append, e1]))
  refine ⟨fun q => ?_, fun q2 => ?_⟩
  · (repeat (refine zS_one rfl ?_; simp (disch := (first | decide | assumption | omega)) only [i_push, i_null, i_ild, i_ald, i_ist, i_ast, i_inc, i_bin, i_div, i_un, i_dup, i_pop, i_dup2, i_if, i_icmp, i_nul, i_nnl, i_goto, i_getf, i_putf, i_gets, i_nald, i_nast, i_aald, i_aast, i_alen, i_new, i_newa, i_newq, i_math, i_oini, i_iret, i_zret, i_aret, i_vret, z_fit, List.getElem?_cons_zero, List.getElem?_cons_succ, List.set_cons_zero, List.set_cons_succ, Nat.reduceAdd, Nat.reduceLT, Nat.reduceLeDiff, Nat.reduceEqDiff, Nat.zero_lt_succ, Value.category, true_and, or_true, true_or, and_true, false_implies, true_implies, not_false_eq_true, not_true_eq_false, List.map_cons, List.map_nil, List.sum_cons, List.sum_nil, va_up_eq, bx_uu, va_up_lit, List.length_cons, List.length_nil, List.drop_succ_cons, List.drop_zero, Option.toList_some, Option.toList_none, List.cons_append, List.nil_append]))
    exact hP _ _ (Or.inl ⟨rfl, rfl, Or.inr (Or.inl q)⟩)
  obtain ⟨p, hp, rfl⟩ : ∃ p, p ≤ k ∧ key = nI p := by
    have h1 : ¬ key < 0 := by
      intro z
      apply q1
      simp only [Int32.lt_iff_toInt_lt] at z ⊢
      have : (0 : Int32).toInt = 0 := by decide
      have : (1 : Int32).toInt = 1 := by decide
      omega
    obtain ⟨j, hj, rfl⟩ := nI_of h1
    refine ⟨j, ?_, rfl⟩
    by_cases hz : k < j
    · exact absurd (nI_lt hz hj) q2
    · omega
  have hp0 : 0 < p := by
    by_cases h : p = 0
    · subst h
      exact absurd (by decide) q1
    · omega
  have v1 : vp_in (nI p) 21 := vp_in_nI (by omega) (by decide)
  have v2 : (nI p).toNatClampNeg = p := nI_clamp (by omega)
  (repeat (refine zS_one rfl ?_; simp (disch := (first | decide | assumption | omega)) only [i_push, i_null, i_ild, i_ald, i_ist, i_ast, i_inc, i_bin, i_div, i_un, i_dup, i_pop, i_dup2, i_if, i_icmp, i_nul, i_nnl, i_goto, i_getf, i_putf, i_gets, i_nald, i_nast, i_aald, i_aast, i_alen, i_new, i_newa, i_newq, i_math, i_oini, i_iret, i_zret, i_aret, i_vret, z_fit, List.getElem?_cons_zero, List.getElem?_cons_succ, List.set_cons_zero, List.set_cons_succ, Nat.reduceAdd, Nat.reduceLT, Nat.reduceLeDiff, Nat.reduceEqDiff, Nat.zero_lt_succ, Value.category, true_and, or_true, true_or, and_true, false_implies, true_implies, not_false_eq_true, not_true_eq_false, List.map_cons, List.map_nil, List.sum_cons, List.sum_nil, va_up_eq, bx_uu, va_up_lit, List.length_cons, List.length_nil, List.drop_succ_cons, List.drop_zero, Option.toList_some, Option.toList_none, List.cons_append, List.nil_append, e1, e10, v1, v2]))
  refine ⟨fun q3 => ?_, fun q3 => ?_⟩
  rotate_left
  · (repeat (refine zS_one rfl ?_; simp (disch := (first | decide | assumption | omega)) only [i_push, i_null, i_ild, i_ald, i_ist, i_ast, i_inc, i_bin, i_div, i_un, i_dup, i_pop, i_dup2, i_if, i_icmp, i_nul, i_nnl, i_goto, i_getf, i_putf, i_gets, i_nald, i_nast, i_aald, i_aast, i_alen, i_new, i_newa, i_newq, i_math, i_oini, i_iret, i_zret, i_aret, i_vret, z_fit, List.getElem?_cons_zero, List.getElem?_cons_succ, List.set_cons_zero, List.set_cons_succ, Nat.reduceAdd, Nat.reduceLT, Nat.reduceLeDiff, Nat.reduceEqDiff, Nat.zero_lt_succ, Value.category, true_and, or_true, true_or, and_true, false_implies, true_implies, not_false_eq_true, not_true_eq_false, List.map_cons, List.map_nil, List.sum_cons, List.sum_nil, va_up_eq, bx_uu, va_up_lit, List.length_cons, List.length_nil, List.drop_succ_cons, List.drop_zero, Option.toList_some, Option.toList_none, List.cons_append, List.nil_append]))
    exact hP _ _ (Or.inl ⟨rfl, rfl, Or.inr (Or.inr ⟨p, hp0, hp, rfl, by rw [← hG]; exact q3⟩)⟩)
  have hloop : ∀ (c t : Nat) (h1 : zH) (N : Nat → Int32), t + c = n + 1 → 0 < t → tS h1 (gvT T N (upd G p 1)) n k → (∀ j, N j = 0 ∨ N j = 1) → (∀ u, 0 < u → u < t → kv (gvT T N (upd G p 1)) u (N u)) → fr 1 10 h0 h1 → zS (zMt zTab sc (d + 1), (0, 0), sc) k_Te_giveAway P (33, [some (.ref 1), some (.int (nI p)), some (.int (nI t))], [], h1, 0, 0) := by
    intro c
    induction c with
    | zero =>
      intro t h1 N ht ht0 hS hN hk hf
      have ht' : t = n + 1 := ht
      subst ht'
      have hS0 := hS
      obtain ⟨e1, e2, e3, e4, e5, e6, e7, e8, e9, e10⟩ := hS
      have w1 : nI n < nI (n + 1) := nI_lt (by omega) (by omega)
      (repeat (refine zS_one rfl ?_; simp (disch := (first | decide | assumption | omega)) only [i_push, i_null, i_ild, i_ald, i_ist, i_ast, i_inc, i_bin, i_div, i_un, i_dup, i_pop, i_dup2, i_if, i_icmp, i_nul, i_nnl, i_goto, i_getf, i_putf, i_gets, i_nald, i_nast, i_aald, i_aast, i_alen, i_new, i_newa, i_newq, i_math, i_oini, i_iret, i_zret, i_aret, i_vret, z_fit, List.getElem?_cons_zero, List.getElem?_cons_succ, List.set_cons_zero, List.set_cons_succ, Nat.reduceAdd, Nat.reduceLT, Nat.reduceLeDiff, Nat.reduceEqDiff, Nat.zero_lt_succ, Value.category, true_and, or_true, true_or, and_true, false_implies, true_implies, not_false_eq_true, not_true_eq_false, List.map_cons, List.map_nil, List.sum_cons, List.sum_nil, va_up_eq, bx_uu, va_up_lit, List.length_cons, List.length_nil, List.drop_succ_cons, List.drop_zero, Option.toList_some, Option.toList_none, List.cons_append, List.nil_append, e1, w1]))
      refine hP _ _ (Or.inr ⟨rfl, hf, p, hp0, hp, rfl, by rw [← hG]; exact q3, gvT T N (upd G p 1), hS0, ⟨i1, i2, hN, fun j => ?_, i5, i6, i7, fun u h1 h2 => hk u h1 (by omega), i9, i10⟩, rfl⟩)
      show upd G p 1 j = 0 ∨ upd G p 1 j = 1
      by_cases hj : j = p
      · rw [hj, upd_s]
        exact Or.inr rfl
      · rw [upd_n hj, ← hG]
        exact i4 j
    | succ c ih =>
      intro t h1 N ht ht0 hS hN hk hf
      have hS0 := hS
      obtain ⟨e1, e2, e3, e4, e5, e6, e7, e8, e9, e10⟩ := hS
      have w1 : ¬ nI n < nI t := nI_nlt (by omega) (by omega)
      have v1 := in720 (t := t) (by omega)
      have v2 := cl720 (t := t) (by omega)
      (repeat (refine zS_one rfl ?_; simp (disch := (first | decide | assumption | omega)) only [i_push, i_null, i_ild, i_ald, i_ist, i_ast, i_inc, i_bin, i_div, i_un, i_dup, i_pop, i_dup2, i_if, i_icmp, i_nul, i_nnl, i_goto, i_getf, i_putf, i_gets, i_nald, i_nast, i_aald, i_aast, i_alen, i_new, i_newa, i_newq, i_math, i_oini, i_iret, i_zret, i_aret, i_vret, z_fit, List.getElem?_cons_zero, List.getElem?_cons_succ, List.set_cons_zero, List.set_cons_succ, Nat.reduceAdd, Nat.reduceLT, Nat.reduceLeDiff, Nat.reduceEqDiff, Nat.zero_lt_succ, Value.category, true_and, or_true, true_or, and_true, false_implies, true_implies, not_false_eq_true, not_true_eq_false, List.map_cons, List.map_nil, List.sum_cons, List.sum_nil, va_up_eq, bx_uu, va_up_lit, List.length_cons, List.length_nil, List.drop_succ_cons, List.drop_zero, Option.toList_some, Option.toList_none, List.cons_append, List.nil_append, e1, w1, e7]))
      (try refine zS_one rfl ?_)
      refine r_callV (c_judged sc d hS0 (t := t) (den := den) (τ := den t) (by omega) (i6 t ht0 (by omega)) hN) rfl rfl rfl rfl e1 (Nat.le_refl _) (Nat.le_refl _) ?_
      rintro r h2 ⟨rfl, v, rfl, hv⟩
      have hv1 : v &&& 1 = v := by rcases kv01 hv with rfl | rfl <;> decide
      (iterate 3 (refine zS_one rfl ?_; simp (disch := (first | decide | assumption | omega)) only [i_push, i_null, i_ild, i_ald, i_ist, i_ast, i_inc, i_bin, i_div, i_un, i_dup, i_pop, i_dup2, i_if, i_icmp, i_nul, i_nnl, i_goto, i_getf, i_putf, i_gets, i_nald, i_nast, i_aald, i_aast, i_alen, i_new, i_newa, i_newq, i_math, i_oini, i_iret, i_zret, i_aret, i_vret, z_fit, List.getElem?_cons_zero, List.getElem?_cons_succ, List.set_cons_zero, List.set_cons_succ, Nat.reduceAdd, Nat.reduceLT, Nat.reduceLeDiff, Nat.reduceEqDiff, Nat.zero_lt_succ, Value.category, true_and, or_true, true_or, and_true, false_implies, true_implies, not_false_eq_true, not_true_eq_false, List.map_cons, List.map_nil, List.sum_cons, List.sum_nil, va_up_eq, bx_uu, va_up_lit, List.length_cons, List.length_nil, List.drop_succ_cons, List.drop_zero, Option.toList_some, Option.toList_none, List.cons_append, List.nil_append, e1, e7, v1, v2, hv1, nI_1']))
      have same : ∀ u, 0 < u → u ≤ t → (jg (gvT T (upd N t v) (upd G p 1)) u ↔ jg (gvT T N (upd G p 1)) u) := fun u h1 h2 => jg_same (den := den) (m := u) (τ := den u) (by omega) rfl rfl rfl rfl (fun x hx => upd_n (by omega)) (i6 u h1 (by omega))
      refine ih (t + 1) _ (upd N t v) (by omega) (by omega) ⟨e1, e2, e3, e4, e5, e6, rfl, e8, e9, e10⟩ (fun j => ?_) (fun u h1 h2 => ?_) (hf.tr ⟨fun q hq => ?_, rfl⟩)
      · by_cases hj : j = t
        · rw [hj, upd_s]
          exact kv01 hv
        · rw [upd_n hj]
          exact hN j
      · have hs := same u h1 (by omega)
        unfold kv
        rw [hs]
        by_cases hu : u = t
        · subst hu
          rw [upd_s]
          exact hv
        · rw [upd_n hu]
          exact hk u h1 (by omega)
      · simp (disch := omega) only [va_up_lit]
  have q4 : (1 : Int32) &&& 1 = 1 := by decide
  (iterate 7 (refine zS_one rfl ?_; simp (disch := (first | decide | assumption | omega)) only [i_push, i_null, i_ild, i_ald, i_ist, i_ast, i_inc, i_bin, i_div, i_un, i_dup, i_pop, i_dup2, i_if, i_icmp, i_nul, i_nnl, i_goto, i_getf, i_putf, i_gets, i_nald, i_nast, i_aald, i_aast, i_alen, i_new, i_newa, i_newq, i_math, i_oini, i_iret, i_zret, i_aret, i_vret, z_fit, List.getElem?_cons_zero, List.getElem?_cons_succ, List.set_cons_zero, List.set_cons_succ, Nat.reduceAdd, Nat.reduceLT, Nat.reduceLeDiff, Nat.reduceEqDiff, Nat.zero_lt_succ, Value.category, true_and, or_true, true_or, and_true, false_implies, true_implies, not_false_eq_true, not_true_eq_false, List.map_cons, List.map_nil, List.sum_cons, List.sum_nil, va_up_eq, bx_uu, va_up_lit, List.length_cons, List.length_nil, List.drop_succ_cons, List.drop_zero, Option.toList_some, Option.toList_none, List.cons_append, List.nil_append, e1, e10, v1, v2, q4]))
  refine hloop n 1 _ (T 5) (by omega) (by omega) ⟨e1, e2, e3, e4, e5, e6, e7, e8, e9, by rw [← hG]; rfl⟩ i3 (fun u h1 h2 => by omega) ⟨fun q hq => ?_, rfl⟩
  simp (disch := omega) only [va_up_lit]
