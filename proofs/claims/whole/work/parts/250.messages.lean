/-! Messages: the object at place 11, its arrays at 12, 13. -/
def mS (h : zH) (m : Nat) (Sz Rw : Nat → Int32) : Prop := h.1 11 = .inr (2, [.ref 12, .ref 13, .int (nI m)]) ∧ h.1 12 = .inl (0, 60, .inl Sz) ∧ h.1 13 = .inl (0, 180, .inl Rw)
/-- message i has the parts l -/
def mR (Sz Rw : Nat → Int32) (n : Nat) (den : Nat → zT) (i : Nat) (l : List zT) : Prop := l.length ≤ 3 ∧ Sz i = nI l.length ∧ ∀ j τ, l[j]? = some τ → ∃ t, 0 < t ∧ t ≤ n ∧ Rw (3 * i + j) = nI t ∧ den t = τ
def mOK (h : zH) (n : Nat) (den : Nat → zT) (m : Nat) (ps : Nat → List zT) : Prop := ∃ Sz Rw, mS h m Sz Rw ∧ m ≤ 60 ∧ (∀ i, i < 60 → mR Sz Rw n den i (ps i)) ∧ ∀ i, m < i → ps i = []
theorem mOK.ext {h h' : zH} {n n' m : Nat} {den den' : Nat → zT} {ps : Nat → List zT} (hM : mOK h n den m ps) (hn : n ≤ n') (hd : ∀ u, 0 < u → u ≤ n → den' u = den u) (h1 : h'.1 11 = h.1 11) (h2 : h'.1 12 = h.1 12) (h3 : h'.1 13 = h.1 13) : mOK h' n' den' m ps := by
  obtain ⟨Sz, Rw, ⟨e1, e2, e3⟩, hm, hr, he⟩ := hM
  refine ⟨Sz, Rw, ⟨h1.trans e1, h2.trans e2, h3.trans e3⟩, hm, fun i hi => ?_, he⟩
  obtain ⟨r1, r2, r3⟩ := hr i hi
  refine ⟨r1, r2, fun j τ hj => ?_⟩
  obtain ⟨t, t1, t2, t3, t4⟩ := r3 j τ hj
  exact ⟨t, t1, by omega, t3, by rw [hd t t1 t2]; exact t4⟩
theorem mOK.fr {h h' : zH} {n n' m lo hi : Nat} {den den' : Nat → zT} {ps : Nat → List zT} (hM : mOK h n den m ps) (hn : n ≤ n') (hd : ∀ u, 0 < u → u ≤ n → den' u = den u) (hf : fr lo hi h h') (hx : hi < 11 ∨ 13 < lo) : mOK h' n' den' m ps :=
  hM.ext hn hd (hf.1 _ (by omega)) (hf.1 _ (by omega)) (hf.1 _ (by omega))
theorem mOK.o {h : zH} {n m : Nat} {den : Nat → zT} {ps : Nat → List zT} (hM : mOK h n den m ps) : h.1 11 = .inr (2, [.ref 12, .ref 13, .int (nI m)]) := by
  obtain ⟨Sz, Rw, hS, -⟩ := hM
  exact hS.1
theorem mOK.m {h : zH} {n m : Nat} {den : Nat → zT} {ps : Nat → List zT} (hM : mOK h n den m ps) : m ≤ 60 := by
  obtain ⟨Sz, Rw, hS, h1, -⟩ := hM
  exact h1
theorem c60 : (60 : Int32) = nI 60 := by decide
theorem le_of_nlt32 {x y : Int32} (h : ¬ x < y) : y ≤ x := k2_le h
section ME
variable {h0 : zH} {n m : Nat} {den : Nat → zT} {ps : Nat → List zT}
theorem c_isFull (sc : Nat × (Nat → Int32)) (d : Nat) (hM : mOK h0 n den m ps) : zMt zTab sc (d + 1) 20 [.ref 11] h0 0 0 (fun r h' => h' = h0 ∧ ((r = some (.int 1) ∧ m = 60) ∨ (r = some (.int 0) ∧ m < 60))) := by
  have e1 := hM.o
  have hm := hM.m
  refine zM_gen fun P hP => ?_
  refine zM_start (r := r_Me_isFull) (cd := k_Me_isFull) (L0 := [some (.ref 11)]) rfl rfl rfl rfl rfl ?_
  (repeat (refine zS_one rfl ?_; simp (disch := (first | decide | assumption | omega)) only [i_push, i_null, i_ild, i_ald, i_ist, i_ast, i_inc, i_bin, i_div, i_un, i_dup, i_pop, i_dup2, i_if, i_icmp, i_nul, i_nnl, i_goto, i_getf, i_putf, i_gets, i_nald, i_nast, i_aald, i_aast, i_alen, i_new, i_newa, i_newq, i_math, i_oini, i_iret, i_zret, i_aret, i_vret, z_fit, List.getElem?_cons_zero, List.getElem?_cons_succ, List.set_cons_zero, List.set_cons_succ, Nat.reduceAdd, Nat.reduceLT, Nat.reduceLeDiff, Nat.reduceEqDiff, Nat.zero_lt_succ, Value.category, true_and, or_true, true_or, and_true, false_implies, true_implies, not_false_eq_true, not_true_eq_false, List.map_cons, List.map_nil, List.sum_cons, List.sum_nil, va_up_eq, bx_uu, va_up_lit, List.length_cons, List.length_nil, List.drop_succ_cons, List.drop_zero, Option.toList_some, Option.toList_none, List.cons_append, List.nil_append, e1]))
  refine ⟨fun q => ?_, fun q => ?_⟩
  · (repeat (refine zS_one rfl ?_; simp (disch := (first | decide | assumption | omega)) only [i_push, i_null, i_ild, i_ald, i_ist, i_ast, i_inc, i_bin, i_div, i_un, i_dup, i_pop, i_dup2, i_if, i_icmp, i_nul, i_nnl, i_goto, i_getf, i_putf, i_gets, i_nald, i_nast, i_aald, i_aast, i_alen, i_new, i_newa, i_newq, i_math, i_oini, i_iret, i_zret, i_aret, i_vret, z_fit, List.getElem?_cons_zero, List.getElem?_cons_succ, List.set_cons_zero, List.set_cons_succ, Nat.reduceAdd, Nat.reduceLT, Nat.reduceLeDiff, Nat.reduceEqDiff, Nat.zero_lt_succ, Value.category, true_and, or_true, true_or, and_true, false_implies, true_implies, not_false_eq_true, not_true_eq_false, List.map_cons, List.map_nil, List.sum_cons, List.sum_nil, va_up_eq, bx_uu, va_up_lit, List.length_cons, List.length_nil, List.drop_succ_cons, List.drop_zero, Option.toList_some, Option.toList_none, List.cons_append, List.nil_append]))
    refine hP _ _ ⟨rfl, Or.inr ⟨rfl, ?_⟩⟩
    rw [c60] at q
    exact (nI_ltI (by omega) (by omega)).mp q
  · (repeat (refine zS_one rfl ?_; simp (disch := (first | decide | assumption | omega)) only [i_push, i_null, i_ild, i_ald, i_ist, i_ast, i_inc, i_bin, i_div, i_un, i_dup, i_pop, i_dup2, i_if, i_icmp, i_nul, i_nnl, i_goto, i_getf, i_putf, i_gets, i_nald, i_nast, i_aald, i_aast, i_alen, i_new, i_newa, i_newq, i_math, i_oini, i_iret, i_zret, i_aret, i_vret, z_fit, List.getElem?_cons_zero, List.getElem?_cons_succ, List.set_cons_zero, List.set_cons_succ, Nat.reduceAdd, Nat.reduceLT, Nat.reduceLeDiff, Nat.reduceEqDiff, Nat.zero_lt_succ, Value.category, true_and, or_true, true_or, and_true, false_implies, true_implies, not_false_eq_true, not_true_eq_false, List.map_cons, List.map_nil, List.sum_cons, List.sum_nil, va_up_eq, bx_uu, va_up_lit, List.length_cons, List.length_nil, List.drop_succ_cons, List.drop_zero, Option.toList_some, Option.toList_none, List.cons_append, List.nil_append]))
    refine hP _ _ ⟨rfl, Or.inl ⟨rfl, ?_⟩⟩
    rw [c60] at q
    by_cases hz : m < 60
    · exact absurd ((nI_ltI (a := m) (b := 60) (by omega) (by omega)).mpr hz) q
    · omega
theorem c_has (sc : Nat × (Nat → Int32)) (d : Nat) (hM : mOK h0 n den m ps) (i : Int32) : zMt zTab sc (d + 1) 21 [.ref 11, .int i] h0 0 0 (fun r h' => h' = h0 ∧ ((r = some (.int 1) ∧ ∃ a, a < m ∧ i = nI a) ∨ (r = some (.int 0) ∧ ∀ a, a < m → i ≠ nI a))) := by
  have e1 := hM.o
  have hm := hM.m
  refine zM_gen fun P hP => ?_
  refine zM_start (r := r_Me_has) (cd := k_Me_has) (L0 := [some (.ref 11), some (.int i)]) rfl rfl rfl rfl rfl ?_
  rcases pk_ix i (show m < 2 ^ 31 by omega) with hi | hi | ⟨j, hj, rfl⟩
  · (repeat (refine zS_one rfl ?_; simp (disch := (first | decide | assumption | omega)) only [i_push, i_null, i_ild, i_ald, i_ist, i_ast, i_inc, i_bin, i_div, i_un, i_dup, i_pop, i_dup2, i_if, i_icmp, i_nul, i_nnl, i_goto, i_getf, i_putf, i_gets, i_nald, i_nast, i_aald, i_aast, i_alen, i_new, i_newa, i_newq, i_math, i_oini, i_iret, i_zret, i_aret, i_vret, z_fit, List.getElem?_cons_zero, List.getElem?_cons_succ, List.set_cons_zero, List.set_cons_succ, Nat.reduceAdd, Nat.reduceLT, Nat.reduceLeDiff, Nat.reduceEqDiff, Nat.zero_lt_succ, Value.category, true_and, or_true, true_or, and_true, false_implies, true_implies, not_false_eq_true, not_true_eq_false, List.map_cons, List.map_nil, List.sum_cons, List.sum_nil, va_up_eq, bx_uu, va_up_lit, List.length_cons, List.length_nil, List.drop_succ_cons, List.drop_zero, Option.toList_some, Option.toList_none, List.cons_append, List.nil_append, e1, hi]))
    exact hP _ _ ⟨rfl, Or.inr ⟨rfl, fun a ha e => nI_pos (n := a) (by omega) (e ▸ hi)⟩⟩
  · have w : ¬ i < 0 := fun z => by
      have h1 := nI_pos' (n := m) (by omega)
      simp only [Int32.lt_iff_toInt_lt, Int32.le_iff_toInt_le] at z h1 hi
      omega
    (repeat (refine zS_one rfl ?_; simp (disch := (first | decide | assumption | omega)) only [i_push, i_null, i_ild, i_ald, i_ist, i_ast, i_inc, i_bin, i_div, i_un, i_dup, i_pop, i_dup2, i_if, i_icmp, i_nul, i_nnl, i_goto, i_getf, i_putf, i_gets, i_nald, i_nast, i_aald, i_aast, i_alen, i_new, i_newa, i_newq, i_math, i_oini, i_iret, i_zret, i_aret, i_vret, z_fit, List.getElem?_cons_zero, List.getElem?_cons_succ, List.set_cons_zero, List.set_cons_succ, Nat.reduceAdd, Nat.reduceLT, Nat.reduceLeDiff, Nat.reduceEqDiff, Nat.zero_lt_succ, Value.category, true_and, or_true, true_or, and_true, false_implies, true_implies, not_false_eq_true, not_true_eq_false, List.map_cons, List.map_nil, List.sum_cons, List.sum_nil, va_up_eq, bx_uu, va_up_lit, List.length_cons, List.length_nil, List.drop_succ_cons, List.drop_zero, Option.toList_some, Option.toList_none, List.cons_append, List.nil_append, e1, hi, w]))
    exact hP _ _ ⟨rfl, Or.inr ⟨rfl, fun a ha e => nI_ge (a := a) (b := m) ha (by omega) (e ▸ hi)⟩⟩
  · have w1 : ¬ nI j < 0 := nI_pos (by omega)
    have w2 : ¬ nI m ≤ nI j := nI_ge hj (by omega)
    (repeat (refine zS_one rfl ?_; simp (disch := (first | decide | assumption | omega)) only [i_push, i_null, i_ild, i_ald, i_ist, i_ast, i_inc, i_bin, i_div, i_un, i_dup, i_pop, i_dup2, i_if, i_icmp, i_nul, i_nnl, i_goto, i_getf, i_putf, i_gets, i_nald, i_nast, i_aald, i_aast, i_alen, i_new, i_newa, i_newq, i_math, i_oini, i_iret, i_zret, i_aret, i_vret, z_fit, List.getElem?_cons_zero, List.getElem?_cons_succ, List.set_cons_zero, List.set_cons_succ, Nat.reduceAdd, Nat.reduceLT, Nat.reduceLeDiff, Nat.reduceEqDiff, Nat.zero_lt_succ, Value.category, true_and, or_true, true_or, and_true, false_implies, true_implies, not_false_eq_true, not_true_eq_false, List.map_cons, List.map_nil, List.sum_cons, List.sum_nil, va_up_eq, bx_uu, va_up_lit, List.length_cons, List.length_nil, List.drop_succ_cons, List.drop_zero, Option.toList_some, Option.toList_none, List.cons_append, List.nil_append, e1, w1, w2]))
    exact hP _ _ ⟨rfl, Or.inl ⟨rfl, j, hj, rfl⟩⟩
theorem c_sizeOf (sc : Nat × (Nat → Int32)) (d : Nat) (hM : mOK h0 n den m ps) (i : Int32) : zMt zTab sc (d + 2) 22 [.ref 11, .int i] h0 0 0 (fun r h' => h' = h0 ∧ ((∃ a, a < m ∧ i = nI a ∧ r = some (.int (nI (ps a).length)) ∧ (ps a).length ≤ 3) ∨ (r = some (.int 0) ∧ ∀ a, a < m → i ≠ nI a))) := by
  have hM0 := hM
  obtain ⟨Sz, Rw, ⟨e1, e2, e3⟩, hm, hr, he⟩ := hM
  refine zM_gen fun P hP => ?_
  refine zM_start (r := r_Me_sizeOf) (cd := k_Me_sizeOf) (L0 := [some (.ref 11), some (.int i)]) rfl rfl rfl rfl rfl ?_
  (repeat (refine zS_one rfl ?_; simp (disch := (first | decide | assumption | omega)) only [i_push, i_null, i_ild, i_ald, i_ist, i_ast, i_inc, i_bin, i_div, i_un, i_dup, i_pop, i_dup2, i_if, i_icmp, i_nul, i_nnl, i_goto, i_getf, i_putf, i_gets, i_nald, i_nast, i_aald, i_aast, i_alen, i_new, i_newa, i_newq, i_math, i_oini, i_iret, i_zret, i_aret, i_vret, z_fit, List.getElem?_cons_zero, List.getElem?_cons_succ, List.set_cons_zero, List.set_cons_succ, Nat.reduceAdd, Nat.reduceLT, Nat.reduceLeDiff, Nat.reduceEqDiff, Nat.zero_lt_succ, Value.category, true_and, or_true, true_or, and_true, false_implies, true_implies, not_false_eq_true, not_true_eq_false, List.map_cons, List.map_nil, List.sum_cons, List.sum_nil, va_up_eq, bx_uu, va_up_lit, List.length_cons, List.length_nil, List.drop_succ_cons, List.drop_zero, Option.toList_some, Option.toList_none, List.cons_append, List.nil_append]))
  (try refine zS_one rfl ?_)
  refine r_callV (c_has sc d hM0 i) rfl rfl rfl rfl e1 (Nat.le_refl _) (Nat.le_refl _) ?_
  rintro r h' ⟨rfl, ⟨rfl, a, ha, rfl⟩ | ⟨rfl, hno⟩⟩
  · have v1 : vp_in (nI a) 60 := vp_in_nI (by omega) (by decide)
    have v2 : (nI a).toNatClampNeg = a := nI_clamp (by omega)
    have w : ¬ (1 : Int32) = 0 := by decide
    (repeat (refine zS_one rfl ?_; simp (disch := (first | decide | assumption | omega)) only [i_push, i_null, i_ild, i_ald, i_ist, i_ast, i_inc, i_bin, i_div, i_un, i_dup, i_pop, i_dup2, i_if, i_icmp, i_nul, i_nnl, i_goto, i_getf, i_putf, i_gets, i_nald, i_nast, i_aald, i_aast, i_alen, i_new, i_newa, i_newq, i_math, i_oini, i_iret, i_zret, i_aret, i_vret, z_fit, List.getElem?_cons_zero, List.getElem?_cons_succ, List.set_cons_zero, List.set_cons_succ, Nat.reduceAdd, Nat.reduceLT, Nat.reduceLeDiff, Nat.reduceEqDiff, Nat.zero_lt_succ, Value.category, true_and, or_true, true_or, and_true, false_implies, true_implies, not_false_eq_true, not_true_eq_false, List.map_cons, List.map_nil, List.sum_cons, List.sum_nil, va_up_eq, bx_uu, va_up_lit, List.length_cons, List.length_nil, List.drop_succ_cons, List.drop_zero, Option.toList_some, Option.toList_none, List.cons_append, List.nil_append, e1, e2, v1, v2, w, (hr a (by omega)).2.1]))
    exact hP _ _ ⟨rfl, Or.inl ⟨a, ha, rfl, rfl, (hr a (by omega)).1⟩⟩
  · (repeat (refine zS_one rfl ?_; simp (disch := (first | decide | assumption | omega)) only [i_push, i_null, i_ild, i_ald, i_ist, i_ast, i_inc, i_bin, i_div, i_un, i_dup, i_pop, i_dup2, i_if, i_icmp, i_nul, i_nnl, i_goto, i_getf, i_putf, i_gets, i_nald, i_nast, i_aald, i_aast, i_alen, i_new, i_newa, i_newq, i_math, i_oini, i_iret, i_zret, i_aret, i_vret, z_fit, List.getElem?_cons_zero, List.getElem?_cons_succ, List.set_cons_zero, List.set_cons_succ, Nat.reduceAdd, Nat.reduceLT, Nat.reduceLeDiff, Nat.reduceEqDiff, Nat.zero_lt_succ, Value.category, true_and, or_true, true_or, and_true, false_implies, true_implies, not_false_eq_true, not_true_eq_false, List.map_cons, List.map_nil, List.sum_cons, List.sum_nil, va_up_eq, bx_uu, va_up_lit, List.length_cons, List.length_nil, List.drop_succ_cons, List.drop_zero, Option.toList_some, Option.toList_none, List.cons_append, List.nil_append]))
    exact hP _ _ ⟨rfl, Or.inr ⟨rfl, hno⟩⟩
def ptP (h0 : zH) (n : Nat) (den : Nat → zT) (m : Nat) (ps : Nat → List zT) (i j : Int32) : zP := fun r h' => h' = h0 ∧ ((∃ a b t, a < m ∧ i = nI a ∧ j = nI b ∧ (ps a)[b]? = some (den t) ∧ 0 < t ∧ t ≤ n ∧ r = some (.int (nI t))) ∨ (r = some (.int 0) ∧ ∀ a b, a < m → i = nI a → b < (ps a).length → j ≠ nI b))
theorem c_partAt (sc : Nat × (Nat → Int32)) (d : Nat) (hM : mOK h0 n den m ps) (i j : Int32) : zMt zTab sc (d + 3) 23 [.ref 11, .int i, .int j] h0 0 0 (ptP h0 n den m ps i j) := by
  have hM0 := hM
  obtain ⟨Sz, Rw, ⟨e1, e2, e3⟩, hm, hr, he⟩ := hM
  refine zM_gen fun P hP => ?_
  refine zM_start (r := r_Me_partAt) (cd := k_Me_partAt) (L0 := [some (.ref 11), some (.int i), some (.int j)]) rfl rfl rfl rfl rfl ?_
  by_cases hj : j < 0
  · (repeat (refine zS_one rfl ?_; simp (disch := (first | decide | assumption | omega)) only [i_push, i_null, i_ild, i_ald, i_ist, i_ast, i_inc, i_bin, i_div, i_un, i_dup, i_pop, i_dup2, i_if, i_icmp, i_nul, i_nnl, i_goto, i_getf, i_putf, i_gets, i_nald, i_nast, i_aald, i_aast, i_alen, i_new, i_newa, i_newq, i_math, i_oini, i_iret, i_zret, i_aret, i_vret, z_fit, List.getElem?_cons_zero, List.getElem?_cons_succ, List.set_cons_zero, List.set_cons_succ, Nat.reduceAdd, Nat.reduceLT, Nat.reduceLeDiff, Nat.reduceEqDiff, Nat.zero_lt_succ, Value.category, true_and, or_true, true_or, and_true, false_implies, true_implies, not_false_eq_true, not_true_eq_false, List.map_cons, List.map_nil, List.sum_cons, List.sum_nil, va_up_eq, bx_uu, va_up_lit, List.length_cons, List.length_nil, List.drop_succ_cons, List.drop_zero, Option.toList_some, Option.toList_none, List.cons_append, List.nil_append, hj]))
    refine hP _ _ ⟨rfl, Or.inr ⟨rfl, fun a b ha _ hb e => nI_pos (n := b) ?_ (e ▸ hj)⟩⟩
    have := (hr a (by omega)).1
    omega
  (repeat (refine zS_one rfl ?_; simp (disch := (first | decide | assumption | omega)) only [i_push, i_null, i_ild, i_ald, i_ist, i_ast, i_inc, i_bin, i_div, i_un, i_dup, i_pop, i_dup2, i_if, i_icmp, i_nul, i_nnl, i_goto, i_getf, i_putf, i_gets, i_nald, i_nast, i_aald, i_aast, i_alen, i_new, i_newa, i_newq, i_math, i_oini, i_iret, i_zret, i_aret, i_vret, z_fit, List.getElem?_cons_zero, List.getElem?_cons_succ, List.set_cons_zero, List.set_cons_succ, Nat.reduceAdd, Nat.reduceLT, Nat.reduceLeDiff, Nat.reduceEqDiff, Nat.zero_lt_succ, Value.category, true_and, or_true, true_or, and_true, false_implies, true_implies, not_false_eq_true, not_true_eq_false, List.map_cons, List.map_nil, List.sum_cons, List.sum_nil, va_up_eq, bx_uu, va_up_lit, List.length_cons, List.length_nil, List.drop_succ_cons, List.drop_zero, Option.toList_some, Option.toList_none, List.cons_append, List.nil_append, hj]))
  (try refine zS_one rfl ?_)
  refine r_callV (c_sizeOf sc d hM0 i) rfl rfl rfl rfl e1 (Nat.le_refl _) (Nat.le_refl _) ?_
  rintro r h' ⟨rfl, ⟨a, ha, rfl, rfl, hl⟩ | ⟨rfl, hno⟩⟩
  · obtain ⟨b, hb, rfl⟩ := nI_of hj
    by_cases hbl : b < (ps a).length
    · have w1 : nI b < nI (ps a).length := nI_lt hbl (by omega)
      obtain ⟨t, t1, t2, t3, t4⟩ := (hr a (by omega)).2.2 b _ (List.getElem?_eq_getElem hbl)
      have v0 : nI a * 3 + nI b = nI (3 * a + b) := by
        rw [show (3 : Int32) = nI 3 by decide, pk_mul, nI_add, Nat.mul_comm]
      have v1 : vp_in (nI (3 * a + b)) 180 := vp_in_nI (by omega) (by decide)
      have v2 : (nI (3 * a + b)).toNatClampNeg = 3 * a + b := nI_clamp (by omega)
      (repeat (refine zS_one rfl ?_; simp (disch := (first | decide | assumption | omega)) only [i_push, i_null, i_ild, i_ald, i_ist, i_ast, i_inc, i_bin, i_div, i_un, i_dup, i_pop, i_dup2, i_if, i_icmp, i_nul, i_nnl, i_goto, i_getf, i_putf, i_gets, i_nald, i_nast, i_aald, i_aast, i_alen, i_new, i_newa, i_newq, i_math, i_oini, i_iret, i_zret, i_aret, i_vret, z_fit, List.getElem?_cons_zero, List.getElem?_cons_succ, List.set_cons_zero, List.set_cons_succ, Nat.reduceAdd, Nat.reduceLT, Nat.reduceLeDiff, Nat.reduceEqDiff, Nat.zero_lt_succ, Value.category, true_and, or_true, true_or, and_true, false_implies, true_implies, not_false_eq_true, not_true_eq_false, List.map_cons, List.map_nil, List.sum_cons, List.sum_nil, va_up_eq, bx_uu, va_up_lit, List.length_cons, List.length_nil, List.drop_succ_cons, List.drop_zero, Option.toList_some, Option.toList_none, List.cons_append, List.nil_append, w1, e1, e3, v0, v1, v2, t3]))
      exact hP _ _ ⟨rfl, Or.inl ⟨a, b, t, ha, rfl, rfl, by rw [t4]; exact List.getElem?_eq_getElem hbl, t1, t2, rfl⟩⟩
    · have w1 : ¬ nI b < nI (ps a).length := nI_nlt (by omega) hb
      (repeat (refine zS_one rfl ?_; simp (disch := (first | decide | assumption | omega)) only [i_push, i_null, i_ild, i_ald, i_ist, i_ast, i_inc, i_bin, i_div, i_un, i_dup, i_pop, i_dup2, i_if, i_icmp, i_nul, i_nnl, i_goto, i_getf, i_putf, i_gets, i_nald, i_nast, i_aald, i_aast, i_alen, i_new, i_newa, i_newq, i_math, i_oini, i_iret, i_zret, i_aret, i_vret, z_fit, List.getElem?_cons_zero, List.getElem?_cons_succ, List.set_cons_zero, List.set_cons_succ, Nat.reduceAdd, Nat.reduceLT, Nat.reduceLeDiff, Nat.reduceEqDiff, Nat.zero_lt_succ, Value.category, true_and, or_true, true_or, and_true, false_implies, true_implies, not_false_eq_true, not_true_eq_false, List.map_cons, List.map_nil, List.sum_cons, List.sum_nil, va_up_eq, bx_uu, va_up_lit, List.length_cons, List.length_nil, List.drop_succ_cons, List.drop_zero, Option.toList_some, Option.toList_none, List.cons_append, List.nil_append, w1]))
      refine hP _ _ ⟨rfl, Or.inr ⟨rfl, fun a' b' ha' e hb' e' => ?_⟩⟩
      have := nI_inj (by omega) (by omega) e
      subst this
      have := (hr a (by omega)).1
      have := nI_inj hb (by omega) e'
      omega
  · (repeat (refine zS_one rfl ?_; simp (disch := (first | decide | assumption | omega)) only [i_push, i_null, i_ild, i_ald, i_ist, i_ast, i_inc, i_bin, i_div, i_un, i_dup, i_pop, i_dup2, i_if, i_icmp, i_nul, i_nnl, i_goto, i_getf, i_putf, i_gets, i_nald, i_nast, i_aald, i_aast, i_alen, i_new, i_newa, i_newq, i_math, i_oini, i_iret, i_zret, i_aret, i_vret, z_fit, List.getElem?_cons_zero, List.getElem?_cons_succ, List.set_cons_zero, List.set_cons_succ, Nat.reduceAdd, Nat.reduceLT, Nat.reduceLeDiff, Nat.reduceEqDiff, Nat.zero_lt_succ, Value.category, true_and, or_true, true_or, and_true, false_implies, true_implies, not_false_eq_true, not_true_eq_false, List.map_cons, List.map_nil, List.sum_cons, List.sum_nil, va_up_eq, bx_uu, va_up_lit, List.length_cons, List.length_nil, List.drop_succ_cons, List.drop_zero, Option.toList_some, Option.toList_none, List.cons_append, List.nil_append, hj]))
    exact hP _ _ ⟨rfl, Or.inr ⟨rfl, fun a b ha e => absurd e (hno a ha)⟩⟩
theorem c_addPart (sc : Nat × (Nat → Int32)) (d : Nat) (hM : mOK h0 n den m ps) (hm6 : m < 60) (hl : (ps m).length < 3) {t : Nat} (ht : 0 < t) (htn : t ≤ n) : zMt zTab sc (d + 2) 24 [.ref 11, .int (nI t)] h0 0 0 (fun r h' => r = none ∧ mOK h' n den m (va_up ps m (ps m ++ [den t])) ∧ fr 11 13 h0 h') := by
  have hM0 := hM
  obtain ⟨Sz, Rw, ⟨e1, e2, e3⟩, hm, hr, he⟩ := hM
  refine zM_gen fun P hP => ?_
  refine zM_start (r := r_Me_addPart) (cd := k_Me_addPart) (L0 := [some (.ref 11), some (.int (nI t))]) rfl rfl rfl rfl rfl ?_
  (repeat (refine zS_one rfl ?_; simp (disch := (first | decide | assumption | omega)) only [i_push, i_null, i_ild, i_ald, i_ist, i_ast, i_inc, i_bin, i_div, i_un, i_dup, i_pop, i_dup2, i_if, i_icmp, i_nul, i_nnl, i_goto, i_getf, i_putf, i_gets, i_nald, i_nast, i_aald, i_aast, i_alen, i_new, i_newa, i_newq, i_math, i_oini, i_iret, i_zret, i_aret, i_vret, z_fit, List.getElem?_cons_zero, List.getElem?_cons_succ, List.set_cons_zero, List.set_cons_succ, Nat.reduceAdd, Nat.reduceLT, Nat.reduceLeDiff, Nat.reduceEqDiff, Nat.zero_lt_succ, Value.category, true_and, or_true, true_or, and_true, false_implies, true_implies, not_false_eq_true, not_true_eq_false, List.map_cons, List.map_nil, List.sum_cons, List.sum_nil, va_up_eq, bx_uu, va_up_lit, List.length_cons, List.length_nil, List.drop_succ_cons, List.drop_zero, Option.toList_some, Option.toList_none, List.cons_append, List.nil_append]))
  (try refine zS_one rfl ?_)
  refine r_callV (c_isFull sc d hM0) rfl rfl rfl rfl e1 (Nat.le_refl _) (Nat.le_refl _) ?_
  rintro r h' ⟨rfl, ⟨rfl, hx⟩ | ⟨rfl, -⟩⟩
  · omega
  have v1 : vp_in (nI m) 60 := vp_in_nI (by omega) (by decide)
  have v2 : (nI m).toNatClampNeg = m := nI_clamp (by omega)
  have v3 := (hr m hm6).2.1
  have v4 : nI (ps m).length < 3 := by rw [show (3 : Int32) = nI 3 by decide]; exact nI_lt hl (by decide)
  have v5 : nI m * 3 + nI (ps m).length = nI (3 * m + (ps m).length) := by
    rw [show (3 : Int32) = nI 3 by decide, pk_mul, nI_add, Nat.mul_comm]
  have v6 : vp_in (nI (3 * m + (ps m).length)) 180 := vp_in_nI (by omega) (by decide)
  have v7 : (nI (3 * m + (ps m).length)).toNatClampNeg = 3 * m + (ps m).length := nI_clamp (by omega)
  (repeat (refine zS_one rfl ?_; simp (disch := (first | decide | assumption | omega)) only [i_push, i_null, i_ild, i_ald, i_ist, i_ast, i_inc, i_bin, i_div, i_un, i_dup, i_pop, i_dup2, i_if, i_icmp, i_nul, i_nnl, i_goto, i_getf, i_putf, i_gets, i_nald, i_nast, i_aald, i_aast, i_alen, i_new, i_newa, i_newq, i_math, i_oini, i_iret, i_zret, i_aret, i_vret, z_fit, List.getElem?_cons_zero, List.getElem?_cons_succ, List.set_cons_zero, List.set_cons_succ, Nat.reduceAdd, Nat.reduceLT, Nat.reduceLeDiff, Nat.reduceEqDiff, Nat.zero_lt_succ, Value.category, true_and, or_true, true_or, and_true, false_implies, true_implies, not_false_eq_true, not_true_eq_false, List.map_cons, List.map_nil, List.sum_cons, List.sum_nil, va_up_eq, bx_uu, va_up_lit, List.length_cons, List.length_nil, List.drop_succ_cons, List.drop_zero, Option.toList_some, Option.toList_none, List.cons_append, List.nil_append, e1, e2, e3, v1, v2, v3, v4, v5, v6, v7, nI_1']))
  refine hP _ _ ⟨rfl, ⟨_, _, ⟨e1, rfl, rfl⟩, hm, fun i hi => ?_, fun i hi => ?_⟩, ⟨fun q hq => ?_, rfl⟩⟩
  · by_cases him : i = m
    · subst him
      rw [va_up_eq]
      refine ⟨by rw [List.length_append]; simp; omega, by rw [upd_s, List.length_append]; rfl, fun j τ hj => ?_⟩
      by_cases hjl : j < (ps i).length
      · rw [List.getElem?_append_left hjl] at hj
        obtain ⟨u, u1, u2, u3, u4⟩ := (hr i hi).2.2 j τ hj
        exact ⟨u, u1, u2, by rw [upd_n (by omega)]; exact u3, u4⟩
      · have hjl2 : j = (ps i).length := by
          have := (List.getElem?_eq_some_iff.mp hj).1
          rw [List.length_append] at this
          simp at this
          omega
        subst hjl2
        rw [List.getElem?_append_right (Nat.le_refl _), Nat.sub_self] at hj
        cases hj
        exact ⟨t, ht, htn, by rw [upd_s], rfl⟩
    · rw [va_up_lit _ _ _ _ him]
      obtain ⟨r1, r2, r3⟩ := hr i hi
      refine ⟨r1, by rw [upd_n him]; exact r2, fun j τ hj => ?_⟩
      obtain ⟨u, u1, u2, u3, u4⟩ := r3 j τ hj
      have hjl : j < (ps i).length := (List.getElem?_eq_some_iff.mp hj).1
      exact ⟨u, u1, u2, by rw [upd_n (by omega)]; exact u3, u4⟩
  · rw [va_up_lit _ _ _ _ (by omega)]
    exact he i hi
  · simp (disch := omega) only [va_up_lit]
theorem c_finish (sc : Nat × (Nat → Int32)) (d : Nat) (hM : mOK h0 n den m ps) (hm6 : m < 60) : zMt zTab sc (d + 1) 25 [.ref 11] h0 0 0 (fun r h' => r = some (.int (nI m)) ∧ mOK h' n den (m + 1) ps ∧ fr 11 13 h0 h') := by
  have hM0 := hM
  obtain ⟨Sz, Rw, ⟨e1, e2, e3⟩, hm, hr, he⟩ := hM
  refine zM_gen fun P hP => ?_
  refine zM_start (r := r_Me_finish) (cd := k_Me_finish) (L0 := [some (.ref 11)]) rfl rfl rfl rfl rfl ?_
  (repeat (refine zS_one rfl ?_; simp (disch := (first | decide | assumption | omega)) only [i_push, i_null, i_ild, i_ald, i_ist, i_ast, i_inc, i_bin, i_div, i_un, i_dup, i_pop, i_dup2, i_if, i_icmp, i_nul, i_nnl, i_goto, i_getf, i_putf, i_gets, i_nald, i_nast, i_aald, i_aast, i_alen, i_new, i_newa, i_newq, i_math, i_oini, i_iret, i_zret, i_aret, i_vret, z_fit, List.getElem?_cons_zero, List.getElem?_cons_succ, List.set_cons_zero, List.set_cons_succ, Nat.reduceAdd, Nat.reduceLT, Nat.reduceLeDiff, Nat.reduceEqDiff, Nat.zero_lt_succ, Value.category, true_and, or_true, true_or, and_true, false_implies, true_implies, not_false_eq_true, not_true_eq_false, List.map_cons, List.map_nil, List.sum_cons, List.sum_nil, va_up_eq, bx_uu, va_up_lit, List.length_cons, List.length_nil, List.drop_succ_cons, List.drop_zero, Option.toList_some, Option.toList_none, List.cons_append, List.nil_append, e1, nI_1', pk_m1']))
  refine hP _ _ ⟨rfl, ⟨Sz, Rw, ⟨rfl, e2, e3⟩, by omega, hr, fun i hi => he i (by omega)⟩, ⟨fun q hq => ?_, rfl⟩⟩
  simp (disch := omega) only [va_up_lit]
end ME
