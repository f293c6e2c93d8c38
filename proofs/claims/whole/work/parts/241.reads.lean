/-! Terms: what is read. -/
def hA (h : zH) (a : Nat) : Nat → Int32 := match h.1 a with
  | .inl (_, _, .inl f) => f
  | _ => fun _ => 0
theorem hA_of {h : zH} {a k n : Nat} {f : Nat → Int32} (e : h.1 a = .inl (k, n, .inl f)) : hA h a = f := by
  unfold hA
  rw [e]
def tkd (τ : zT) : Int := τ.headD 0
def tv (τ : zT) : Int32 := Int32.ofInt (τ.getD 1 0)
theorem rw_C_kd {k a b c d : Int32} {den : Nat → zT} {m : Nat} {τ : zT} (h : rw_C k a b c d den m τ) : tkd τ = k.toInt := by
  rcases h with ⟨hk, h⟩ | ⟨hk, h⟩ | ⟨hk, h⟩ | ⟨hk, x, y, -, -, -, -, h⟩ | ⟨hk, x, -, -, h⟩ | ⟨hk, x, y, z, -, -, -, -, -, -, h⟩
  · rw [h.2.2.2, hk]; rfl
  · rw [h.2.2.2.2, hk]; rfl
  · rw [h.2.2.2.2, hk]; rfl
  · rw [h.2.2.2.2]; rfl
  · rw [h.2.2.2, hk]; rfl
  · rw [h.2.2.2, hk]; rfl
theorem rw_C_tv {k a b c d : Int32} {den : Nat → zT} {m : Nat} {τ : zT} (h : rw_C k a b c d den m τ) (hk : tkd τ = 1 ∨ tkd τ = 2) : tv τ = a := by
  rw [rw_C_kd h] at hk
  rcases h with ⟨-, h⟩ | ⟨-, h⟩ | ⟨hk', h⟩ | ⟨hk', x, y, -, -, -, -, h⟩ | ⟨hk', x, -, -, h⟩ | ⟨hk', x, y, z, -, -, -, -, -, -, h⟩
  · rw [h.2.2.2]
    exact Int32.ofInt_toInt a
  · rw [h.2.2.2.2]
    exact Int32.ofInt_toInt a
  · exfalso; rw [hk'] at hk; revert hk; decide
  · exfalso; rcases hk' with hk' | hk' | hk' <;> rw [hk'] at hk <;> revert hk <;> decide
  · exfalso; rw [hk'] at hk; revert hk; decide
  · exfalso; rw [hk'] at hk; revert hk; decide
theorem rw_C_seal {k a b c d : Int32} {den : Nat → zT} {m : Nat} {τ X Y Z : zT} {q q2 : Int} (h : rw_C k a b c d den m τ) (hs : τ = nd 8 q q2 X Y Z) : k = 8 ∧ b.toInt = q ∧ ∃ x y z, 0 < x ∧ x < m ∧ 0 < y ∧ y < m ∧ 0 < z ∧ z < m ∧ a = nI x ∧ c = nI y ∧ d = nI z ∧ den x = X ∧ den y = Y ∧ den z = Z := by
  have hk := rw_C_kd h
  rw [hs] at hk
  have hk8 : k = 8 := i32_inj (hk.symm.trans (by show (8 : Int) = Int32.toInt 8; decide))
  rcases h with ⟨hk', h⟩ | ⟨hk', h⟩ | ⟨hk', h⟩ | ⟨hk', h⟩ | ⟨hk', h⟩ | ⟨hk', x, y, z, h1, h2, h3, h4, h5, h6, h7, h8, h9, h10⟩
  · exfalso; rw [hk'] at hk8; revert hk8; decide
  · exfalso; rw [hk'] at hk8; revert hk8; decide
  · exfalso; rw [hk'] at hk8; revert hk8; decide
  · exfalso; rcases hk' with hk' | hk' | hk' <;> rw [hk'] at hk8 <;> revert hk8 <;> decide
  · exfalso; rw [hk'] at hk8; revert hk8; decide
  · have e := nd_inj (h10.symm.trans hs)
    exact ⟨hk8, e.2.1, x, y, z, h1, h2, h3, h4, h5, h6, h7, h8, h9, e.2.2.2.1, e.2.2.2.2.1, e.2.2.2.2.2⟩
section TR
variable {h0 : zH} {n k : Nat} {den : Nat → zT} {G : Nat → Int32}
def isKP (h0 : zH) (den : Nat → zT) (t : Nat) (K : Int) : zP := fun r h' => h' = h0 ∧ ((r = some (.int 1) ∧ 0 < t ∧ tkd (den t) = K) ∨ (r = some (.int 0) ∧ (t = 0 ∨ tkd (den t) ≠ K)))
theorem c_isNum (sc : Nat × (Nat → Int32)) (d : Nat) (hO : tOK h0 n k den G) {t : Nat} (ht : t ≤ n) : zMt zTab sc (d + 1) 41 [.ref 1, .int (nI t)] h0 0 0 (isKP h0 den t 1) := by
  obtain ⟨T, ⟨e1, e2, e3, e4, e5, e6, e7, e8, e9, e10⟩, hI, hG⟩ := hO
  have hn := hI.1
  have v1 := in720 (t := t) (by omega)
  have v2 := cl720 (t := t) (by omega)
  refine zM_gen fun P hP => ?_
  refine zM_start (r := r_Te_isNum) (cd := k_Te_isNum) (L0 := [some (.ref 1), some (.int (nI t))]) rfl rfl rfl rfl rfl ?_
  (repeat (refine zS_one rfl ?_; simp (disch := (first | decide | assumption | omega)) only [i_push, i_null, i_ild, i_ald, i_ist, i_ast, i_inc, i_bin, i_div, i_un, i_dup, i_pop, i_dup2, i_if, i_icmp, i_nul, i_nnl, i_goto, i_getf, i_putf, i_gets, i_nald, i_nast, i_aald, i_aast, i_alen, i_new, i_newa, i_newq, i_math, i_oini, i_iret, i_zret, i_aret, i_vret, z_fit, List.getElem?_cons_zero, List.getElem?_cons_succ, List.set_cons_zero, List.set_cons_succ, Nat.reduceAdd, Nat.reduceLT, Nat.reduceLeDiff, Nat.reduceEqDiff, Nat.zero_lt_succ, Value.category, true_and, or_true, true_or, and_true, false_implies, true_implies, not_false_eq_true, not_true_eq_false, List.map_cons, List.map_nil, List.sum_cons, List.sum_nil, va_up_eq, bx_uu, va_up_lit, List.length_cons, List.length_nil, List.drop_succ_cons, List.drop_zero, Option.toList_some, Option.toList_none, List.cons_append, List.nil_append, e1, e2, v1, v2]))
  refine ⟨fun q => ?_, fun q => ?_⟩
  · (repeat (refine zS_one rfl ?_; simp (disch := (first | decide | assumption | omega)) only [i_push, i_null, i_ild, i_ald, i_ist, i_ast, i_inc, i_bin, i_div, i_un, i_dup, i_pop, i_dup2, i_if, i_icmp, i_nul, i_nnl, i_goto, i_getf, i_putf, i_gets, i_nald, i_nast, i_aald, i_aast, i_alen, i_new, i_newa, i_newq, i_math, i_oini, i_iret, i_zret, i_aret, i_vret, z_fit, List.getElem?_cons_zero, List.getElem?_cons_succ, List.set_cons_zero, List.set_cons_succ, Nat.reduceAdd, Nat.reduceLT, Nat.reduceLeDiff, Nat.reduceEqDiff, Nat.zero_lt_succ, Value.category, true_and, or_true, true_or, and_true, false_implies, true_implies, not_false_eq_true, not_true_eq_false, List.map_cons, List.map_nil, List.sum_cons, List.sum_nil, va_up_eq, bx_uu, va_up_lit, List.length_cons, List.length_nil, List.drop_succ_cons, List.drop_zero, Option.toList_some, Option.toList_none, List.cons_append, List.nil_append]))
    refine hP _ _ ⟨rfl, Or.inr ⟨rfl, ?_⟩⟩
    by_cases h0 : t = 0
    · exact Or.inl h0
    · right
      rw [rw_C_kd (hI.2.2.2.2.2.1 t (by omega) ht)]
      intro e
      exact q (i32_inj (e.trans (by decide)))
  · (repeat (refine zS_one rfl ?_; simp (disch := (first | decide | assumption | omega)) only [i_push, i_null, i_ild, i_ald, i_ist, i_ast, i_inc, i_bin, i_div, i_un, i_dup, i_pop, i_dup2, i_if, i_icmp, i_nul, i_nnl, i_goto, i_getf, i_putf, i_gets, i_nald, i_nast, i_aald, i_aast, i_alen, i_new, i_newa, i_newq, i_math, i_oini, i_iret, i_zret, i_aret, i_vret, z_fit, List.getElem?_cons_zero, List.getElem?_cons_succ, List.set_cons_zero, List.set_cons_succ, Nat.reduceAdd, Nat.reduceLT, Nat.reduceLeDiff, Nat.reduceEqDiff, Nat.zero_lt_succ, Value.category, true_and, or_true, true_or, and_true, false_implies, true_implies, not_false_eq_true, not_true_eq_false, List.map_cons, List.map_nil, List.sum_cons, List.sum_nil, va_up_eq, bx_uu, va_up_lit, List.length_cons, List.length_nil, List.drop_succ_cons, List.drop_zero, Option.toList_some, Option.toList_none, List.cons_append, List.nil_append]))
    have h0 : 0 < t := by
      by_cases h0 : t = 0
      · rw [h0, hI.2.2.2.2.1] at q
        exact absurd q (by decide)
      · omega
    refine hP _ _ ⟨rfl, Or.inl ⟨rfl, h0, ?_⟩⟩
    rw [rw_C_kd (hI.2.2.2.2.2.1 t h0 ht), q]
    decide
theorem c_isPub (sc : Nat × (Nat → Int32)) (d : Nat) (hO : tOK h0 n k den G) {t : Nat} (ht : t ≤ n) : zMt zTab sc (d + 1) 42 [.ref 1, .int (nI t)] h0 0 0 (isKP h0 den t 2) := by
  obtain ⟨T, ⟨e1, e2, e3, e4, e5, e6, e7, e8, e9, e10⟩, hI, hG⟩ := hO
  have hn := hI.1
  have v1 := in720 (t := t) (by omega)
  have v2 := cl720 (t := t) (by omega)
  refine zM_gen fun P hP => ?_
  refine zM_start (r := r_Te_isPub) (cd := k_Te_isPub) (L0 := [some (.ref 1), some (.int (nI t))]) rfl rfl rfl rfl rfl ?_
  (repeat (refine zS_one rfl ?_; simp (disch := (first | decide | assumption | omega)) only [i_push, i_null, i_ild, i_ald, i_ist, i_ast, i_inc, i_bin, i_div, i_un, i_dup, i_pop, i_dup2, i_if, i_icmp, i_nul, i_nnl, i_goto, i_getf, i_putf, i_gets, i_nald, i_nast, i_aald, i_aast, i_alen, i_new, i_newa, i_newq, i_math, i_oini, i_iret, i_zret, i_aret, i_vret, z_fit, List.getElem?_cons_zero, List.getElem?_cons_succ, List.set_cons_zero, List.set_cons_succ, Nat.reduceAdd, Nat.reduceLT, Nat.reduceLeDiff, Nat.reduceEqDiff, Nat.zero_lt_succ, Value.category, true_and, or_true, true_or, and_true, false_implies, true_implies, not_false_eq_true, not_true_eq_false, List.map_cons, List.map_nil, List.sum_cons, List.sum_nil, va_up_eq, bx_uu, va_up_lit, List.length_cons, List.length_nil, List.drop_succ_cons, List.drop_zero, Option.toList_some, Option.toList_none, List.cons_append, List.nil_append, e1, e2, v1, v2]))
  refine ⟨fun q => ?_, fun q => ?_⟩
  · (repeat (refine zS_one rfl ?_; simp (disch := (first | decide | assumption | omega)) only [i_push, i_null, i_ild, i_ald, i_ist, i_ast, i_inc, i_bin, i_div, i_un, i_dup, i_pop, i_dup2, i_if, i_icmp, i_nul, i_nnl, i_goto, i_getf, i_putf, i_gets, i_nald, i_nast, i_aald, i_aast, i_alen, i_new, i_newa, i_newq, i_math, i_oini, i_iret, i_zret, i_aret, i_vret, z_fit, List.getElem?_cons_zero, List.getElem?_cons_succ, List.set_cons_zero, List.set_cons_succ, Nat.reduceAdd, Nat.reduceLT, Nat.reduceLeDiff, Nat.reduceEqDiff, Nat.zero_lt_succ, Value.category, true_and, or_true, true_or, and_true, false_implies, true_implies, not_false_eq_true, not_true_eq_false, List.map_cons, List.map_nil, List.sum_cons, List.sum_nil, va_up_eq, bx_uu, va_up_lit, List.length_cons, List.length_nil, List.drop_succ_cons, List.drop_zero, Option.toList_some, Option.toList_none, List.cons_append, List.nil_append]))
    refine hP _ _ ⟨rfl, Or.inr ⟨rfl, ?_⟩⟩
    by_cases h0 : t = 0
    · exact Or.inl h0
    · right
      rw [rw_C_kd (hI.2.2.2.2.2.1 t (by omega) ht)]
      intro e
      exact q (i32_inj (e.trans (by decide)))
  · (repeat (refine zS_one rfl ?_; simp (disch := (first | decide | assumption | omega)) only [i_push, i_null, i_ild, i_ald, i_ist, i_ast, i_inc, i_bin, i_div, i_un, i_dup, i_pop, i_dup2, i_if, i_icmp, i_nul, i_nnl, i_goto, i_getf, i_putf, i_gets, i_nald, i_nast, i_aald, i_aast, i_alen, i_new, i_newa, i_newq, i_math, i_oini, i_iret, i_zret, i_aret, i_vret, z_fit, List.getElem?_cons_zero, List.getElem?_cons_succ, List.set_cons_zero, List.set_cons_succ, Nat.reduceAdd, Nat.reduceLT, Nat.reduceLeDiff, Nat.reduceEqDiff, Nat.zero_lt_succ, Value.category, true_and, or_true, true_or, and_true, false_implies, true_implies, not_false_eq_true, not_true_eq_false, List.map_cons, List.map_nil, List.sum_cons, List.sum_nil, va_up_eq, bx_uu, va_up_lit, List.length_cons, List.length_nil, List.drop_succ_cons, List.drop_zero, Option.toList_some, Option.toList_none, List.cons_append, List.nil_append]))
    have h0 : 0 < t := by
      by_cases h0 : t = 0
      · rw [h0, hI.2.2.2.2.1] at q
        exact absurd q (by decide)
      · omega
    refine hP _ _ ⟨rfl, Or.inl ⟨rfl, h0, ?_⟩⟩
    rw [rw_C_kd (hI.2.2.2.2.2.1 t h0 ht), q]
    decide
theorem c_isSeal (sc : Nat × (Nat → Int32)) (d : Nat) (hO : tOK h0 n k den G) {t : Nat} (ht : t ≤ n) : zMt zTab sc (d + 1) 43 [.ref 1, .int (nI t)] h0 0 0 (isKP h0 den t 8) := by
  obtain ⟨T, ⟨e1, e2, e3, e4, e5, e6, e7, e8, e9, e10⟩, hI, hG⟩ := hO
  have hn := hI.1
  have v1 := in720 (t := t) (by omega)
  have v2 := cl720 (t := t) (by omega)
  refine zM_gen fun P hP => ?_
  refine zM_start (r := r_Te_isSeal) (cd := k_Te_isSeal) (L0 := [some (.ref 1), some (.int (nI t))]) rfl rfl rfl rfl rfl ?_
  (repeat (refine zS_one rfl ?_; simp (disch := (first | decide | assumption | omega)) only [i_push, i_null, i_ild, i_ald, i_ist, i_ast, i_inc, i_bin, i_div, i_un, i_dup, i_pop, i_dup2, i_if, i_icmp, i_nul, i_nnl, i_goto, i_getf, i_putf, i_gets, i_nald, i_nast, i_aald, i_aast, i_alen, i_new, i_newa, i_newq, i_math, i_oini, i_iret, i_zret, i_aret, i_vret, z_fit, List.getElem?_cons_zero, List.getElem?_cons_succ, List.set_cons_zero, List.set_cons_succ, Nat.reduceAdd, Nat.reduceLT, Nat.reduceLeDiff, Nat.reduceEqDiff, Nat.zero_lt_succ, Value.category, true_and, or_true, true_or, and_true, false_implies, true_implies, not_false_eq_true, not_true_eq_false, List.map_cons, List.map_nil, List.sum_cons, List.sum_nil, va_up_eq, bx_uu, va_up_lit, List.length_cons, List.length_nil, List.drop_succ_cons, List.drop_zero, Option.toList_some, Option.toList_none, List.cons_append, List.nil_append, e1, e2, v1, v2]))
  refine ⟨fun q => ?_, fun q => ?_⟩
  · (repeat (refine zS_one rfl ?_; simp (disch := (first | decide | assumption | omega)) only [i_push, i_null, i_ild, i_ald, i_ist, i_ast, i_inc, i_bin, i_div, i_un, i_dup, i_pop, i_dup2, i_if, i_icmp, i_nul, i_nnl, i_goto, i_getf, i_putf, i_gets, i_nald, i_nast, i_aald, i_aast, i_alen, i_new, i_newa, i_newq, i_math, i_oini, i_iret, i_zret, i_aret, i_vret, z_fit, List.getElem?_cons_zero, List.getElem?_cons_succ, List.set_cons_zero, List.set_cons_succ, Nat.reduceAdd, Nat.reduceLT, Nat.reduceLeDiff, Nat.reduceEqDiff, Nat.zero_lt_succ, Value.category, true_and, or_true, true_or, and_true, false_implies, true_implies, not_false_eq_true, not_true_eq_false, List.map_cons, List.map_nil, List.sum_cons, List.sum_nil, va_up_eq, bx_uu, va_up_lit, List.length_cons, List.length_nil, List.drop_succ_cons, List.drop_zero, Option.toList_some, Option.toList_none, List.cons_append, List.nil_append]))
    refine hP _ _ ⟨rfl, Or.inr ⟨rfl, ?_⟩⟩
    by_cases h0 : t = 0
    · exact Or.inl h0
    · right
      rw [rw_C_kd (hI.2.2.2.2.2.1 t (by omega) ht)]
      intro e
      exact q (i32_inj (e.trans (by decide)))
  · (repeat (refine zS_one rfl ?_; simp (disch := (first | decide | assumption | omega)) only [i_push, i_null, i_ild, i_ald, i_ist, i_ast, i_inc, i_bin, i_div, i_un, i_dup, i_pop, i_dup2, i_if, i_icmp, i_nul, i_nnl, i_goto, i_getf, i_putf, i_gets, i_nald, i_nast, i_aald, i_aast, i_alen, i_new, i_newa, i_newq, i_math, i_oini, i_iret, i_zret, i_aret, i_vret, z_fit, List.getElem?_cons_zero, List.getElem?_cons_succ, List.set_cons_zero, List.set_cons_succ, Nat.reduceAdd, Nat.reduceLT, Nat.reduceLeDiff, Nat.reduceEqDiff, Nat.zero_lt_succ, Value.category, true_and, or_true, true_or, and_true, false_implies, true_implies, not_false_eq_true, not_true_eq_false, List.map_cons, List.map_nil, List.sum_cons, List.sum_nil, va_up_eq, bx_uu, va_up_lit, List.length_cons, List.length_nil, List.drop_succ_cons, List.drop_zero, Option.toList_some, Option.toList_none, List.cons_append, List.nil_append]))
    have h0 : 0 < t := by
      by_cases h0 : t = 0
      · rw [h0, hI.2.2.2.2.1] at q
        exact absurd q (by decide)
      · omega
    refine hP _ _ ⟨rfl, Or.inl ⟨rfl, h0, ?_⟩⟩
    rw [rw_C_kd (hI.2.2.2.2.2.1 t h0 ht), q]
    decide
theorem c_valueOf (sc : Nat × (Nat → Int32)) (d : Nat) (hO : tOK h0 n k den G) {t : Nat} (h1 : 0 < t) (ht : t ≤ n) (hk : tkd (den t) = 1 ∨ tkd (den t) = 2) : zMt zTab sc (d + 1) 45 [.ref 1, .int (nI t)] h0 0 0 (fun r h' => h' = h0 ∧ r = some (.int (tv (den t)))) := by
  obtain ⟨T, ⟨e1, e2, e3, e4, e5, e6, e7, e8, e9, e10⟩, hI, hG⟩ := hO
  have hn := hI.1
  have v1 := in720 (t := t) (by omega)
  have v2 := cl720 (t := t) (by omega)
  have v3 := rw_C_tv (hI.2.2.2.2.2.1 t h1 ht) hk
  refine zM_gen fun P hP => ?_
  refine zM_start (r := r_Te_valueOf) (cd := k_Te_valueOf) (L0 := [some (.ref 1), some (.int (nI t))]) rfl rfl rfl rfl rfl ?_
  (repeat (refine zS_one rfl ?_; simp (disch := (first | decide | assumption | omega)) only [i_push, i_null, i_ild, i_ald, i_ist, i_ast, i_inc, i_bin, i_div, i_un, i_dup, i_pop, i_dup2, i_if, i_icmp, i_nul, i_nnl, i_goto, i_getf, i_putf, i_gets, i_nald, i_nast, i_aald, i_aast, i_alen, i_new, i_newa, i_newq, i_math, i_oini, i_iret, i_zret, i_aret, i_vret, z_fit, List.getElem?_cons_zero, List.getElem?_cons_succ, List.set_cons_zero, List.set_cons_succ, Nat.reduceAdd, Nat.reduceLT, Nat.reduceLeDiff, Nat.reduceEqDiff, Nat.zero_lt_succ, Value.category, true_and, or_true, true_or, and_true, false_implies, true_implies, not_false_eq_true, not_true_eq_false, List.map_cons, List.map_nil, List.sum_cons, List.sum_nil, va_up_eq, bx_uu, va_up_lit, List.length_cons, List.length_nil, List.drop_succ_cons, List.drop_zero, Option.toList_some, Option.toList_none, List.cons_append, List.nil_append, e1, e3, v1, v2]))
  exact hP _ _ ⟨rfl, by rw [v3]⟩
theorem c_insideOf (sc : Nat × (Nat → Int32)) (d : Nat) (hO : tOK h0 n k den G) {t : Nat} (h1 : 0 < t) (ht : t ≤ n) {c c2 : Int} {X Y Z : zT} (hs : den t = nd 8 c c2 X Y Z) : zMt zTab sc (d + 1) 46 [.ref 1, .int (nI t)] h0 0 0 (fun r h' => h' = h0 ∧ ∃ z, r = some (.int (nI z)) ∧ 0 < z ∧ z ≤ n ∧ den z = Z) := by
  obtain ⟨T, ⟨e1, e2, e3, e4, e5, e6, e7, e8, e9, e10⟩, hI, hG⟩ := hO
  have hn := hI.1
  have v1 := in720 (t := t) (by omega)
  have v2 := cl720 (t := t) (by omega)
  obtain ⟨-, -, x, y, z, -, -, -, -, h5, h6, -, -, h9, -, -, h10⟩ := rw_C_seal (hI.2.2.2.2.2.1 t h1 ht) hs
  refine zM_gen fun P hP => ?_
  refine zM_start (r := r_Te_insideOf) (cd := k_Te_insideOf) (L0 := [some (.ref 1), some (.int (nI t))]) rfl rfl rfl rfl rfl ?_
  (repeat (refine zS_one rfl ?_; simp (disch := (first | decide | assumption | omega)) only [i_push, i_null, i_ild, i_ald, i_ist, i_ast, i_inc, i_bin, i_div, i_un, i_dup, i_pop, i_dup2, i_if, i_icmp, i_nul, i_nnl, i_goto, i_getf, i_putf, i_gets, i_nald, i_nast, i_aald, i_aast, i_alen, i_new, i_newa, i_newq, i_math, i_oini, i_iret, i_zret, i_aret, i_vret, z_fit, List.getElem?_cons_zero, List.getElem?_cons_succ, List.set_cons_zero, List.set_cons_succ, Nat.reduceAdd, Nat.reduceLT, Nat.reduceLeDiff, Nat.reduceEqDiff, Nat.zero_lt_succ, Value.category, true_and, or_true, true_or, and_true, false_implies, true_implies, not_false_eq_true, not_true_eq_false, List.map_cons, List.map_nil, List.sum_cons, List.sum_nil, va_up_eq, bx_uu, va_up_lit, List.length_cons, List.length_nil, List.drop_succ_cons, List.drop_zero, Option.toList_some, Option.toList_none, List.cons_append, List.nil_append, e1, e6, v1, v2, h9]))
  exact hP _ _ ⟨rfl, z, rfl, h5, by omega, h10⟩
theorem c_canWorkOut (sc : Nat × (Nat → Int32)) (d : Nat) (hO : tOK h0 n k den G) {t : Nat} (ht : t ≤ n) : zMt zTab sc (d + 1) 47 [.ref 1, .int (nI t)] h0 0 0 (fun r h' => h' = h0 ∧ r = some (.int (hA h0 7 t)) ∧ (hA h0 7 t = 0 ∨ hA h0 7 t = 1)) := by
  obtain ⟨T, ⟨e1, e2, e3, e4, e5, e6, e7, e8, e9, e10⟩, hI, hG⟩ := hO
  have hn := hI.1
  have v1 := in720 (t := t) (by omega)
  have v2 := cl720 (t := t) (by omega)
  have v3 := hI.2.2.1 t
  rw [hA_of e7]
  refine zM_gen fun P hP => ?_
  refine zM_start (r := r_Te_canWorkOut) (cd := k_Te_canWorkOut) (L0 := [some (.ref 1), some (.int (nI t))]) rfl rfl rfl rfl rfl ?_
  (repeat (refine zS_one rfl ?_; simp (disch := (first | decide | assumption | omega)) only [i_push, i_null, i_ild, i_ald, i_ist, i_ast, i_inc, i_bin, i_div, i_un, i_dup, i_pop, i_dup2, i_if, i_icmp, i_nul, i_nnl, i_goto, i_getf, i_putf, i_gets, i_nald, i_nast, i_aald, i_aast, i_alen, i_new, i_newa, i_newq, i_math, i_oini, i_iret, i_zret, i_aret, i_vret, z_fit, List.getElem?_cons_zero, List.getElem?_cons_succ, List.set_cons_zero, List.set_cons_succ, Nat.reduceAdd, Nat.reduceLT, Nat.reduceLeDiff, Nat.reduceEqDiff, Nat.zero_lt_succ, Value.category, true_and, or_true, true_or, and_true, false_implies, true_implies, not_false_eq_true, not_true_eq_false, List.map_cons, List.map_nil, List.sum_cons, List.sum_nil, va_up_eq, bx_uu, va_up_lit, List.length_cons, List.length_nil, List.drop_succ_cons, List.drop_zero, Option.toList_some, Option.toList_none, List.cons_append, List.nil_append, e1, e7, v1, v2, v3]))
  exact hP _ _ ⟨rfl, rfl, v3⟩
theorem c_canOpen (sc : Nat × (Nat → Int32)) (d : Nat) (hO : tOK h0 n k den G) {t : Nat} (h1 : 0 < t) (ht : t ≤ n) {c c2 : Int} {X Y Z : zT} (hs : den t = nd 8 c c2 X Y Z) : zMt zTab sc (d + 1) 48 [.ref 1, .int (nI t)] h0 0 0 (fun r h' => h' = h0 ∧ ∃ x, 0 < x ∧ x ≤ n ∧ den x = X ∧ r = some (.int (hA h0 7 x)) ∧ (hA h0 7 x = 0 ∨ hA h0 7 x = 1)) := by
  obtain ⟨T, ⟨e1, e2, e3, e4, e5, e6, e7, e8, e9, e10⟩, hI, hG⟩ := hO
  have hn := hI.1
  have v1 := in720 (t := t) (by omega)
  have v2 := cl720 (t := t) (by omega)
  obtain ⟨-, -, x, y, z, g1, g2, -, -, -, -, g7, -, -, g10, -, -⟩ := rw_C_seal (hI.2.2.2.2.2.1 t h1 ht) hs
  have v3 := in720 (t := x) (by omega)
  have v4 := cl720 (t := x) (by omega)
  have v5 := hI.2.2.1 x
  refine zM_gen fun P hP => ?_
  refine zM_start (r := r_Te_canOpen) (cd := k_Te_canOpen) (L0 := [some (.ref 1), some (.int (nI t))]) rfl rfl rfl rfl rfl ?_
  (repeat (refine zS_one rfl ?_; simp (disch := (first | decide | assumption | omega)) only [i_push, i_null, i_ild, i_ald, i_ist, i_ast, i_inc, i_bin, i_div, i_un, i_dup, i_pop, i_dup2, i_if, i_icmp, i_nul, i_nnl, i_goto, i_getf, i_putf, i_gets, i_nald, i_nast, i_aald, i_aast, i_alen, i_new, i_newa, i_newq, i_math, i_oini, i_iret, i_zret, i_aret, i_vret, z_fit, List.getElem?_cons_zero, List.getElem?_cons_succ, List.set_cons_zero, List.set_cons_succ, Nat.reduceAdd, Nat.reduceLT, Nat.reduceLeDiff, Nat.reduceEqDiff, Nat.zero_lt_succ, Value.category, true_and, or_true, true_or, and_true, false_implies, true_implies, not_false_eq_true, not_true_eq_false, List.map_cons, List.map_nil, List.sum_cons, List.sum_nil, va_up_eq, bx_uu, va_up_lit, List.length_cons, List.length_nil, List.drop_succ_cons, List.drop_zero, Option.toList_some, Option.toList_none, List.cons_append, List.nil_append, e1, e3, e7, v1, v2, v3, v4, v5, g7]))
  exact hP _ _ ⟨rfl, x, g1, by omega, g10, by rw [hA_of e7], by rw [hA_of e7]; exact v5⟩
theorem c_newest (sc : Nat × (Nat → Int32)) (d : Nat) (hO : tOK h0 n k den G) : zMt zTab sc (d + 1) 51 [.ref 1] h0 0 0 (fun r h' => h' = h0 ∧ r = some (.int (nI n))) := by
  have e1 := hO.o
  refine zM_gen fun P hP => ?_
  refine zM_start (r := r_Te_newest) (cd := k_Te_newest) (L0 := [some (.ref 1)]) rfl rfl rfl rfl rfl ?_
  (repeat (refine zS_one rfl ?_; simp (disch := (first | decide | assumption | omega)) only [i_push, i_null, i_ild, i_ald, i_ist, i_ast, i_inc, i_bin, i_div, i_un, i_dup, i_pop, i_dup2, i_if, i_icmp, i_nul, i_nnl, i_goto, i_getf, i_putf, i_gets, i_nald, i_nast, i_aald, i_aast, i_alen, i_new, i_newa, i_newq, i_math, i_oini, i_iret, i_zret, i_aret, i_vret, z_fit, List.getElem?_cons_zero, List.getElem?_cons_succ, List.set_cons_zero, List.set_cons_succ, Nat.reduceAdd, Nat.reduceLT, Nat.reduceLeDiff, Nat.reduceEqDiff, Nat.zero_lt_succ, Value.category, true_and, or_true, true_or, and_true, false_implies, true_implies, not_false_eq_true, not_true_eq_false, List.map_cons, List.map_nil, List.sum_cons, List.sum_nil, va_up_eq, bx_uu, va_up_lit, List.length_cons, List.length_nil, List.drop_succ_cons, List.drop_zero, Option.toList_some, Option.toList_none, List.cons_append, List.nil_append, e1]))
  exact hP _ _ ⟨rfl, rfl⟩
theorem c_isSealOf (sc : Nat × (Nat → Int32)) (d : Nat) (hO : tOK h0 n k den G) {t x y : Nat} {c : Int32} (ht : t ≤ n) (hx : 0 < x) (hxn : x ≤ n) (hy : 0 < y) (hyn : y ≤ n) : zMt zTab sc (d + 2) 44 [.ref 1, .int (nI t), .int (nI x), .int c, .int (nI y)] h0 0 0 (fun r h' => h' = h0 ∧ ((r = some (.int 1) ∧ 0 < t ∧ ∃ Z, den t = nd 8 c.toInt 0 (den x) (den y) Z) ∨ (r = some (.int 0) ∧ (t = 0 ∨ ∀ Z, den t ≠ nd 8 c.toInt 0 (den x) (den y) Z)))) := by
  have hO0 := hO
  obtain ⟨T, ⟨e1, e2, e3, e4, e5, e6, e7, e8, e9, e10⟩, hI, hG⟩ := hO
  have hn := hI.1
  have v1 := in720 (t := t) (by omega)
  have v2 := cl720 (t := t) (by omega)
  refine zM_gen fun P hP => ?_
  refine zM_start (r := r_Te_isSealOf) (cd := k_Te_isSealOf) (L0 := [some (.ref 1), some (.int (nI t)), some (.int (nI x)), some (.int c), some (.int (nI y))]) rfl rfl rfl rfl rfl ?_
  (repeat (refine zS_one rfl ?_; simp (disch := (first | decide | assumption | omega)) only [i_push, i_null, i_ild, i_ald, i_ist, i_ast, i_inc, i_bin, i_div, i_un, i_dup, i_pop, i_dup2, i_if, i_icmp, i_nul, i_nnl, i_goto, i_getf, i_putf, i_gets, i_nald, i_nast, i_aald, i_aast, i_alen, i_new, i_newa, i_newq, i_math, i_oini, i_iret, i_zret, i_aret, i_vret, z_fit, List.getElem?_cons_zero, List.getElem?_cons_succ, List.set_cons_zero, List.set_cons_succ, Nat.reduceAdd, Nat.reduceLT, Nat.reduceLeDiff, Nat.reduceEqDiff, Nat.zero_lt_succ, Value.category, true_and, or_true, true_or, and_true, false_implies, true_implies, not_false_eq_true, not_true_eq_false, List.map_cons, List.map_nil, List.sum_cons, List.sum_nil, va_up_eq, bx_uu, va_up_lit, List.length_cons, List.length_nil, List.drop_succ_cons, List.drop_zero, Option.toList_some, Option.toList_none, List.cons_append, List.nil_append]))
  (try refine zS_one rfl ?_)
  refine r_callV (c_isSeal sc d hO0 ht) rfl rfl rfl rfl e1 (Nat.le_refl _) (Nat.le_refl _) ?_
  rintro r h' ⟨rfl, ⟨rfl, ht0, hk⟩ | ⟨rfl, hk⟩⟩
  · have hno : (∀ Z, den t ≠ nd 8 c.toInt 0 (den x) (den y) Z) → zS (zMt zTab sc (d + 1), (0, 0), sc) k_Te_isSealOf P (43, [some (.ref 1), some (.int (nI t)), some (.int (nI x)), some (.int c), some (.int (nI y))], [], h', 0, 0) := by
      intro hq
      (repeat (refine zS_one rfl ?_; simp (disch := (first | decide | assumption | omega)) only [i_push, i_null, i_ild, i_ald, i_ist, i_ast, i_inc, i_bin, i_div, i_un, i_dup, i_pop, i_dup2, i_if, i_icmp, i_nul, i_nnl, i_goto, i_getf, i_putf, i_gets, i_nald, i_nast, i_aald, i_aast, i_alen, i_new, i_newa, i_newq, i_math, i_oini, i_iret, i_zret, i_aret, i_vret, z_fit, List.getElem?_cons_zero, List.getElem?_cons_succ, List.set_cons_zero, List.set_cons_succ, Nat.reduceAdd, Nat.reduceLT, Nat.reduceLeDiff, Nat.reduceEqDiff, Nat.zero_lt_succ, Value.category, true_and, or_true, true_or, and_true, false_implies, true_implies, not_false_eq_true, not_true_eq_false, List.map_cons, List.map_nil, List.sum_cons, List.sum_nil, va_up_eq, bx_uu, va_up_lit, List.length_cons, List.length_nil, List.drop_succ_cons, List.drop_zero, Option.toList_some, Option.toList_none, List.cons_append, List.nil_append]))
      exact hP _ _ ⟨rfl, Or.inr ⟨rfl, Or.inr hq⟩⟩
    have hrow := hI.2.2.2.2.2.1 t ht0 ht
    (repeat (refine zS_one rfl ?_; simp (disch := (first | decide | assumption | omega)) only [i_push, i_null, i_ild, i_ald, i_ist, i_ast, i_inc, i_bin, i_div, i_un, i_dup, i_pop, i_dup2, i_if, i_icmp, i_nul, i_nnl, i_goto, i_getf, i_putf, i_gets, i_nald, i_nast, i_aald, i_aast, i_alen, i_new, i_newa, i_newq, i_math, i_oini, i_iret, i_zret, i_aret, i_vret, z_fit, List.getElem?_cons_zero, List.getElem?_cons_succ, List.set_cons_zero, List.set_cons_succ, Nat.reduceAdd, Nat.reduceLT, Nat.reduceLeDiff, Nat.reduceEqDiff, Nat.zero_lt_succ, Value.category, true_and, or_true, true_or, and_true, false_implies, true_implies, not_false_eq_true, not_true_eq_false, List.map_cons, List.map_nil, List.sum_cons, List.sum_nil, va_up_eq, bx_uu, va_up_lit, List.length_cons, List.length_nil, List.drop_succ_cons, List.drop_zero, Option.toList_some, Option.toList_none, List.cons_append, List.nil_append]))
    refine ⟨fun q => absurd q (by decide), fun _ => ?_⟩
    (repeat (refine zS_one rfl ?_; simp (disch := (first | decide | assumption | omega)) only [i_push, i_null, i_ild, i_ald, i_ist, i_ast, i_inc, i_bin, i_div, i_un, i_dup, i_pop, i_dup2, i_if, i_icmp, i_nul, i_nnl, i_goto, i_getf, i_putf, i_gets, i_nald, i_nast, i_aald, i_aast, i_alen, i_new, i_newa, i_newq, i_math, i_oini, i_iret, i_zret, i_aret, i_vret, z_fit, List.getElem?_cons_zero, List.getElem?_cons_succ, List.set_cons_zero, List.set_cons_succ, Nat.reduceAdd, Nat.reduceLT, Nat.reduceLeDiff, Nat.reduceEqDiff, Nat.zero_lt_succ, Value.category, true_and, or_true, true_or, and_true, false_implies, true_implies, not_false_eq_true, not_true_eq_false, List.map_cons, List.map_nil, List.sum_cons, List.sum_nil, va_up_eq, bx_uu, va_up_lit, List.length_cons, List.length_nil, List.drop_succ_cons, List.drop_zero, Option.toList_some, Option.toList_none, List.cons_append, List.nil_append, e1, e3, v1, v2]))
    refine ⟨fun q => hno (fun Z hs => ?_), fun q1 => ?_⟩
    · obtain ⟨-, -, x', y', z', g1, g2, g3, g4, -, -, g7, -, -, g10, g11, -⟩ := rw_C_seal hrow hs
      have := hI.2.2.2.2.2.2.1 x' x g1 (by omega) hx hxn g10
      subst this
      exact q g7
    (repeat (refine zS_one rfl ?_; simp (disch := (first | decide | assumption | omega)) only [i_push, i_null, i_ild, i_ald, i_ist, i_ast, i_inc, i_bin, i_div, i_un, i_dup, i_pop, i_dup2, i_if, i_icmp, i_nul, i_nnl, i_goto, i_getf, i_putf, i_gets, i_nald, i_nast, i_aald, i_aast, i_alen, i_new, i_newa, i_newq, i_math, i_oini, i_iret, i_zret, i_aret, i_vret, z_fit, List.getElem?_cons_zero, List.getElem?_cons_succ, List.set_cons_zero, List.set_cons_succ, Nat.reduceAdd, Nat.reduceLT, Nat.reduceLeDiff, Nat.reduceEqDiff, Nat.zero_lt_succ, Value.category, true_and, or_true, true_or, and_true, false_implies, true_implies, not_false_eq_true, not_true_eq_false, List.map_cons, List.map_nil, List.sum_cons, List.sum_nil, va_up_eq, bx_uu, va_up_lit, List.length_cons, List.length_nil, List.drop_succ_cons, List.drop_zero, Option.toList_some, Option.toList_none, List.cons_append, List.nil_append, e1, e4, v1, v2]))
    refine ⟨fun q => hno (fun Z hs => ?_), fun q2 => ?_⟩
    · obtain ⟨-, g0, -⟩ := rw_C_seal hrow hs
      exact q (i32_inj g0)
    (repeat (refine zS_one rfl ?_; simp (disch := (first | decide | assumption | omega)) only [i_push, i_null, i_ild, i_ald, i_ist, i_ast, i_inc, i_bin, i_div, i_un, i_dup, i_pop, i_dup2, i_if, i_icmp, i_nul, i_nnl, i_goto, i_getf, i_putf, i_gets, i_nald, i_nast, i_aald, i_aast, i_alen, i_new, i_newa, i_newq, i_math, i_oini, i_iret, i_zret, i_aret, i_vret, z_fit, List.getElem?_cons_zero, List.getElem?_cons_succ, List.set_cons_zero, List.set_cons_succ, Nat.reduceAdd, Nat.reduceLT, Nat.reduceLeDiff, Nat.reduceEqDiff, Nat.zero_lt_succ, Value.category, true_and, or_true, true_or, and_true, false_implies, true_implies, not_false_eq_true, not_true_eq_false, List.map_cons, List.map_nil, List.sum_cons, List.sum_nil, va_up_eq, bx_uu, va_up_lit, List.length_cons, List.length_nil, List.drop_succ_cons, List.drop_zero, Option.toList_some, Option.toList_none, List.cons_append, List.nil_append, e1, e5, v1, v2]))
    refine ⟨fun q => hno (fun Z hs => ?_), fun q3 => ?_⟩
    · obtain ⟨-, -, x', y', z', g1, g2, g3, g4, -, -, g7, g8, -, g10, g11, -⟩ := rw_C_seal hrow hs
      have := hI.2.2.2.2.2.2.1 y' y g3 (by omega) hy hyn g11
      subst this
      exact q g8
    (repeat (refine zS_one rfl ?_; simp (disch := (first | decide | assumption | omega)) only [i_push, i_null, i_ild, i_ald, i_ist, i_ast, i_inc, i_bin, i_div, i_un, i_dup, i_pop, i_dup2, i_if, i_icmp, i_nul, i_nnl, i_goto, i_getf, i_putf, i_gets, i_nald, i_nast, i_aald, i_aast, i_alen, i_new, i_newa, i_newq, i_math, i_oini, i_iret, i_zret, i_aret, i_vret, z_fit, List.getElem?_cons_zero, List.getElem?_cons_succ, List.set_cons_zero, List.set_cons_succ, Nat.reduceAdd, Nat.reduceLT, Nat.reduceLeDiff, Nat.reduceEqDiff, Nat.zero_lt_succ, Value.category, true_and, or_true, true_or, and_true, false_implies, true_implies, not_false_eq_true, not_true_eq_false, List.map_cons, List.map_nil, List.sum_cons, List.sum_nil, va_up_eq, bx_uu, va_up_lit, List.length_cons, List.length_nil, List.drop_succ_cons, List.drop_zero, Option.toList_some, Option.toList_none, List.cons_append, List.nil_append]))
    refine hP _ _ ⟨rfl, Or.inl ⟨rfl, ht0, ?_⟩⟩
    rcases hrow with ⟨hk', h⟩ | ⟨hk', h⟩ | ⟨hk', h⟩ | ⟨hk', h⟩ | ⟨hk', h⟩ | ⟨hk', x', y', z', h1, h2, h3, h4, h5, h6, h7, h8, h9, h10⟩
    · exfalso; rw [rw_C_kd (hI.2.2.2.2.2.1 t ht0 ht), hk'] at hk; revert hk; decide
    · exfalso; rw [rw_C_kd (hI.2.2.2.2.2.1 t ht0 ht), hk'] at hk; revert hk; decide
    · exfalso; rw [rw_C_kd (hI.2.2.2.2.2.1 t ht0 ht), hk'] at hk; revert hk; decide
    · exfalso; rw [rw_C_kd (hI.2.2.2.2.2.1 t ht0 ht)] at hk; rcases hk' with hk' | hk' | hk' <;> rw [hk'] at hk <;> revert hk <;> decide
    · exfalso; rw [rw_C_kd (hI.2.2.2.2.2.1 t ht0 ht), hk'] at hk; revert hk; decide
    · have ex : x' = x := nI_inj (by omega) (by omega) (h7.symm.trans q1)
      have ey : y' = y := nI_inj (by omega) (by omega) (h8.symm.trans q3)
      exact ⟨den z', by rw [h10, q2, ex, ey]⟩
  · (repeat (refine zS_one rfl ?_; simp (disch := (first | decide | assumption | omega)) only [i_push, i_null, i_ild, i_ald, i_ist, i_ast, i_inc, i_bin, i_div, i_un, i_dup, i_pop, i_dup2, i_if, i_icmp, i_nul, i_nnl, i_goto, i_getf, i_putf, i_gets, i_nald, i_nast, i_aald, i_aast, i_alen, i_new, i_newa, i_newq, i_math, i_oini, i_iret, i_zret, i_aret, i_vret, z_fit, List.getElem?_cons_zero, List.getElem?_cons_succ, List.set_cons_zero, List.set_cons_succ, Nat.reduceAdd, Nat.reduceLT, Nat.reduceLeDiff, Nat.reduceEqDiff, Nat.zero_lt_succ, Value.category, true_and, or_true, true_or, and_true, false_implies, true_implies, not_false_eq_true, not_true_eq_false, List.map_cons, List.map_nil, List.sum_cons, List.sum_nil, va_up_eq, bx_uu, va_up_lit, List.length_cons, List.length_nil, List.drop_succ_cons, List.drop_zero, Option.toList_some, Option.toList_none, List.cons_append, List.nil_append]))
    refine hP _ _ ⟨rfl, Or.inr ⟨rfl, ?_⟩⟩
    rcases hk with hk | hk
    · exact Or.inl hk
    · refine Or.inr (fun Z hs => hk ?_)
      rw [hs]
      rfl
theorem c_makeKey (sc : Nat × (Nat → Int32)) (d : Nat) (hO : tOK h0 n k den G) (hk : k < 20) : zMt zTab sc (d + 1) 49 [.ref 1] h0 0 0 (fun r h' => r = some (.int (nI (k + 1))) ∧ tOK h' n (k + 1) den G ∧ fr 1 10 h0 h') := by
  obtain ⟨T, ⟨e1, e2, e3, e4, e5, e6, e7, e8, e9, e10⟩, hI, hG⟩ := hO
  have w1 : ¬ 20 ≤ nI k := by rw [show (20 : Int32) = nI 20 by decide]; exact nI_ge hk (by decide)
  have hk8 := hI.2.1.1
  refine zM_gen fun P hP => ?_
  refine zM_start (r := r_Te_makeKey) (cd := k_Te_makeKey) (L0 := [some (.ref 1)]) rfl rfl rfl rfl rfl ?_
  (repeat (refine zS_one rfl ?_; simp (disch := (first | decide | assumption | omega)) only [i_push, i_null, i_ild, i_ald, i_ist, i_ast, i_inc, i_bin, i_div, i_un, i_dup, i_pop, i_dup2, i_if, i_icmp, i_nul, i_nnl, i_goto, i_getf, i_putf, i_gets, i_nald, i_nast, i_aald, i_aast, i_alen, i_new, i_newa, i_newq, i_math, i_oini, i_iret, i_zret, i_aret, i_vret, z_fit, List.getElem?_cons_zero, List.getElem?_cons_succ, List.set_cons_zero, List.set_cons_succ, Nat.reduceAdd, Nat.reduceLT, Nat.reduceLeDiff, Nat.reduceEqDiff, Nat.zero_lt_succ, Value.category, true_and, or_true, true_or, and_true, false_implies, true_implies, not_false_eq_true, not_true_eq_false, List.map_cons, List.map_nil, List.sum_cons, List.sum_nil, va_up_eq, bx_uu, va_up_lit, List.length_cons, List.length_nil, List.drop_succ_cons, List.drop_zero, Option.toList_some, Option.toList_none, List.cons_append, List.nil_append, e1, w1, nI_1']))
  refine hP _ _ ⟨rfl, ⟨T, ⟨rfl, e2, e3, e4, e5, e6, e7, e8, e9, e10⟩, ⟨hI.1, ⟨by omega, by omega⟩, hI.2.2⟩, hG⟩, ⟨fun q hq => ?_, rfl⟩⟩
  simp (disch := omega) only [va_up_lit]
end TR
