def isES (tok : Int32) : Nat := if tok = 1 ∨ tok = 2 then 1 else 0
def pcn (r : Nat) : Nat := 1 + isES (z_tok (r * 4 + 0)) + isES (z_tok (r * 4 + 1)) + isES (z_tok (r * 4 + 2)) + isES (z_tok (r * 4 + 3))
abbrev zR3 : Type := (Nat → Int32) × (Nat → zT) × Nat
/-- one token read -/
noncomputable def rtok (tok : Int32) (l : List zT) (s : zR3) : Option zR3 :=
  if tok = 1 ∨ tok = 2 then (match l[s.2.2]? with
    | some τ => (rk tok s.1 s.2.1 τ).map (fun q => (q.1, q.2, s.2.2 + 1))
    | none => none)
  else if tok = 0 then some s
  else some (va_up s.1 6 0, mixΘ tok s.1 s.2.1, s.2.2)
noncomputable def rpay (l : List zT) (s : zR3) : Option ((Nat → Int32) × (Nat → zT) × zT) := match l[s.2.2]? with
  | some τ => (match opnF s.1 s.2.1 τ with
    | some Z => if tkd Z = 1 then some (va_up (inc s.1 s.2.1) 7 (s.1 7 + 1), hsh s.2.1 τ, Z) else none
    | none => none)
  | none => none
noncomputable def rrow (r : Nat) (l : List zT) (s : zR3) : Option zR3 := (((rtok (z_tok (r * 4 + 0)) l s).bind (rtok (z_tok (r * 4 + 1)) l)).bind (rtok (z_tok (r * 4 + 2)) l)).bind (rtok (z_tok (r * 4 + 3)) l)
noncomputable def rfin (r : Nat) (l : List zT) (I : Nat → Int32) (Θ : Nat → zT) : Option ((Nat → Int32) × (Nat → zT) × zT) := if l.length = pcn r then (rrow r l (I, Θ, 0)).bind (rpay l) else none
theorem rk_I {tok : Int32} {I I' : Nat → Int32} {Θ Θ' : Nat → zT} {τ : zT} (h : rk tok I Θ τ = some (I', Θ')) : I' 0 = I 0 ∧ I' 7 = I 7 ∧ I' 1 = I 1 ∧ I' 2 = I 2 ∧ I' 3 = I 3 := by
  have hi : (inc I Θ) 0 = I 0 ∧ (inc I Θ) 7 = I 7 ∧ (inc I Θ) 1 = I 1 ∧ (inc I Θ) 2 = I 2 ∧ (inc I Θ) 3 = I 3 := by unfold inc; split <;> exact ⟨rfl, rfl, rfl, rfl, rfl⟩
  unfold rk at h
  split at h
  · split at h
    · cases h; exact ⟨rfl, rfl, rfl, rfl, rfl⟩
    · cases h
  · split at h
    · split at h
      · cases h; exact hi
      · cases h
    · cases h
theorem rtok_I {tok : Int32} {l : List zT} {s s' : zR3} (h : rtok tok l s = some s') : s'.1 0 = s.1 0 ∧ s'.1 7 = s.1 7 ∧ s'.1 1 = s.1 1 ∧ s'.1 2 = s.1 2 ∧ s'.2.2 = s.2.2 + isES tok := by
  unfold rtok at h
  unfold isES
  by_cases h1 : tok = 1 ∨ tok = 2
  · rw [if_pos h1] at h ⊢
    split at h
    · cases hr : rk tok s.1 s.2.1 _ with
      | none => rw [hr] at h; cases h
      | some q =>
        rw [hr] at h
        cases h
        have := rk_I hr
        exact ⟨this.1, this.2.1, this.2.2.1, this.2.2.2.1, rfl⟩
    · cases h
  · rw [if_neg h1] at h ⊢
    split at h
    · cases h; exact ⟨rfl, rfl, rfl, rfl, rfl⟩
    · cases h; exact ⟨rfl, rfl, rfl, rfl, rfl⟩
section AG7
variable {h0 : zH} {a n k m : Nat} {den : Nat → zT} {G : Nat → Int32} {ps : Nat → List zT} {I : Nat → Int32} {Θ : Nat → zT}
theorem c_partsOfNext (sc : Nat × (Nat → Int32)) (d : Nat) {x y z p s : Nat} (e : h0.1 a = .inr (0, aF I x y z)) (h1 : I 0 = nI p) (h2 : I 7 = nI s) (hr : p * 3 + s ≤ 4) : zMt zTab sc (d + 2) 8 [.ref a] h0 0 0 (fun r h' => h' = h0 ∧ r = some (.int (nI (pcn (p * 3 + s))))) := by
  refine zM_gen fun P hP => ?_
  refine zM_start (r := r_Ag_partsOfNext) (cd := k_Ag_partsOfNext) (L0 := [some (.ref a), none, none]) rfl rfl rfl rfl rfl ?_
  have it : ∀ (c i : Nat), i < 4 → zS (zMt zTab sc (d + 1), (0, 0), sc) k_Ag_partsOfNext P (4, [some (.ref a), some (.int (nI (c + isES (z_tok ((p * 3 + s) * 4 + i))))), some (.int (nI (i + 1)))], [], h0, 0, 0) → zS (zMt zTab sc (d + 1), (0, 0), sc) k_Ag_partsOfNext P (4, [some (.ref a), some (.int (nI c)), some (.int (nI i))], [], h0, 0, 0) := by
    intro c i hi kk
    have w1 : ¬ 4 ≤ nI i := by rw [show (4 : Int32) = nI 4 by decide]; exact nI_ge hi (by decide)
    (repeat (refine zS_one rfl ?_; simp (disch := (first | decide | assumption | omega)) only [i_push, i_null, i_ild, i_ald, i_ist, i_ast, i_inc, i_bin, i_div, i_un, i_dup, i_pop, i_dup2, i_if, i_icmp, i_nul, i_nnl, i_goto, i_getf, i_putf, i_gets, i_nald, i_nast, i_aald, i_aast, i_alen, i_new, i_newa, i_newq, i_math, i_oini, i_iret, i_zret, i_aret, i_vret, z_fit, List.getElem?_cons_zero, List.getElem?_cons_succ, List.set_cons_zero, List.set_cons_succ, Nat.reduceAdd, Nat.reduceLT, Nat.reduceLeDiff, Nat.reduceEqDiff, Nat.zero_lt_succ, Value.category, true_and, or_true, true_or, and_true, false_implies, true_implies, not_false_eq_true, not_true_eq_false, List.map_cons, List.map_nil, List.sum_cons, List.sum_nil, va_up_eq, bx_uu, va_up_lit, List.length_cons, List.length_nil, List.drop_succ_cons, List.drop_zero, Option.toList_some, Option.toList_none, List.cons_append, List.nil_append, w1]))
    (try refine zS_one rfl ?_)
    refine r_callV (c_tokenAt sc d e h1 h2 hr hi) rfl rfl rfl rfl e (Nat.le_refl _) (Nat.le_refl _) ?_
    rintro r h' ⟨rfl, rfl⟩
    (repeat (refine zS_one rfl ?_; simp (disch := (first | decide | assumption | omega)) only [i_push, i_null, i_ild, i_ald, i_ist, i_ast, i_inc, i_bin, i_div, i_un, i_dup, i_pop, i_dup2, i_if, i_icmp, i_nul, i_nnl, i_goto, i_getf, i_putf, i_gets, i_nald, i_nast, i_aald, i_aast, i_alen, i_new, i_newa, i_newq, i_math, i_oini, i_iret, i_zret, i_aret, i_vret, z_fit, List.getElem?_cons_zero, List.getElem?_cons_succ, List.set_cons_zero, List.set_cons_succ, Nat.reduceAdd, Nat.reduceLT, Nat.reduceLeDiff, Nat.reduceEqDiff, Nat.zero_lt_succ, Value.category, true_and, or_true, true_or, and_true, false_implies, true_implies, not_false_eq_true, not_true_eq_false, List.map_cons, List.map_nil, List.sum_cons, List.sum_nil, va_up_eq, bx_uu, va_up_lit, List.length_cons, List.length_nil, List.drop_succ_cons, List.drop_zero, Option.toList_some, Option.toList_none, List.cons_append, List.nil_append]))
    refine ⟨fun q => ?_, fun q => ?_⟩
    · rw [show isES (z_tok ((p * 3 + s) * 4 + i)) = 1 from if_pos (Or.inl q)] at kk
      (iterate 3 (refine zS_one rfl ?_; simp (disch := (first | decide | assumption | omega)) only [i_push, i_null, i_ild, i_ald, i_ist, i_ast, i_inc, i_bin, i_div, i_un, i_dup, i_pop, i_dup2, i_if, i_icmp, i_nul, i_nnl, i_goto, i_getf, i_putf, i_gets, i_nald, i_nast, i_aald, i_aast, i_alen, i_new, i_newa, i_newq, i_math, i_oini, i_iret, i_zret, i_aret, i_vret, z_fit, List.getElem?_cons_zero, List.getElem?_cons_succ, List.set_cons_zero, List.set_cons_succ, Nat.reduceAdd, Nat.reduceLT, Nat.reduceLeDiff, Nat.reduceEqDiff, Nat.zero_lt_succ, Value.category, true_and, or_true, true_or, and_true, false_implies, true_implies, not_false_eq_true, not_true_eq_false, List.map_cons, List.map_nil, List.sum_cons, List.sum_nil, va_up_eq, bx_uu, va_up_lit, List.length_cons, List.length_nil, List.drop_succ_cons, List.drop_zero, Option.toList_some, Option.toList_none, List.cons_append, List.nil_append, nI_1']))
      exact kk
    · (repeat (refine zS_one rfl ?_; simp (disch := (first | decide | assumption | omega)) only [i_push, i_null, i_ild, i_ald, i_ist, i_ast, i_inc, i_bin, i_div, i_un, i_dup, i_pop, i_dup2, i_if, i_icmp, i_nul, i_nnl, i_goto, i_getf, i_putf, i_gets, i_nald, i_nast, i_aald, i_aast, i_alen, i_new, i_newa, i_newq, i_math, i_oini, i_iret, i_zret, i_aret, i_vret, z_fit, List.getElem?_cons_zero, List.getElem?_cons_succ, List.set_cons_zero, List.set_cons_succ, Nat.reduceAdd, Nat.reduceLT, Nat.reduceLeDiff, Nat.reduceEqDiff, Nat.zero_lt_succ, Value.category, true_and, or_true, true_or, and_true, false_implies, true_implies, not_false_eq_true, not_true_eq_false, List.map_cons, List.map_nil, List.sum_cons, List.sum_nil, va_up_eq, bx_uu, va_up_lit, List.length_cons, List.length_nil, List.drop_succ_cons, List.drop_zero, Option.toList_some, Option.toList_none, List.cons_append, List.nil_append]))
      (try refine zS_one rfl ?_)
      refine r_callV (c_tokenAt sc d e h1 h2 hr hi) rfl rfl rfl rfl e (Nat.le_refl _) (Nat.le_refl _) ?_
      rintro r h' ⟨rfl, rfl⟩
      (repeat (refine zS_one rfl ?_; simp (disch := (first | decide | assumption | omega)) only [i_push, i_null, i_ild, i_ald, i_ist, i_ast, i_inc, i_bin, i_div, i_un, i_dup, i_pop, i_dup2, i_if, i_icmp, i_nul, i_nnl, i_goto, i_getf, i_putf, i_gets, i_nald, i_nast, i_aald, i_aast, i_alen, i_new, i_newa, i_newq, i_math, i_oini, i_iret, i_zret, i_aret, i_vret, z_fit, List.getElem?_cons_zero, List.getElem?_cons_succ, List.set_cons_zero, List.set_cons_succ, Nat.reduceAdd, Nat.reduceLT, Nat.reduceLeDiff, Nat.reduceEqDiff, Nat.zero_lt_succ, Value.category, true_and, or_true, true_or, and_true, false_implies, true_implies, not_false_eq_true, not_true_eq_false, List.map_cons, List.map_nil, List.sum_cons, List.sum_nil, va_up_eq, bx_uu, va_up_lit, List.length_cons, List.length_nil, List.drop_succ_cons, List.drop_zero, Option.toList_some, Option.toList_none, List.cons_append, List.nil_append]))
      refine ⟨fun q2 => ?_, fun q2 => ?_⟩
      · rw [show isES (z_tok ((p * 3 + s) * 4 + i)) = 0 from if_neg (fun z => z.elim q q2)] at kk
        (iterate 2 (refine zS_one rfl ?_; simp (disch := (first | decide | assumption | omega)) only [i_push, i_null, i_ild, i_ald, i_ist, i_ast, i_inc, i_bin, i_div, i_un, i_dup, i_pop, i_dup2, i_if, i_icmp, i_nul, i_nnl, i_goto, i_getf, i_putf, i_gets, i_nald, i_nast, i_aald, i_aast, i_alen, i_new, i_newa, i_newq, i_math, i_oini, i_iret, i_zret, i_aret, i_vret, z_fit, List.getElem?_cons_zero, List.getElem?_cons_succ, List.set_cons_zero, List.set_cons_succ, Nat.reduceAdd, Nat.reduceLT, Nat.reduceLeDiff, Nat.reduceEqDiff, Nat.zero_lt_succ, Value.category, true_and, or_true, true_or, and_true, false_implies, true_implies, not_false_eq_true, not_true_eq_false, List.map_cons, List.map_nil, List.sum_cons, List.sum_nil, va_up_eq, bx_uu, va_up_lit, List.length_cons, List.length_nil, List.drop_succ_cons, List.drop_zero, Option.toList_some, Option.toList_none, List.cons_append, List.nil_append, nI_1']))
        exact kk
      · rw [show isES (z_tok ((p * 3 + s) * 4 + i)) = 1 from if_pos (Or.inr q2)] at kk
        (iterate 3 (refine zS_one rfl ?_; simp (disch := (first | decide | assumption | omega)) only [i_push, i_null, i_ild, i_ald, i_ist, i_ast, i_inc, i_bin, i_div, i_un, i_dup, i_pop, i_dup2, i_if, i_icmp, i_nul, i_nnl, i_goto, i_getf, i_putf, i_gets, i_nald, i_nast, i_aald, i_aast, i_alen, i_new, i_newa, i_newq, i_math, i_oini, i_iret, i_zret, i_aret, i_vret, z_fit, List.getElem?_cons_zero, List.getElem?_cons_succ, List.set_cons_zero, List.set_cons_succ, Nat.reduceAdd, Nat.reduceLT, Nat.reduceLeDiff, Nat.reduceEqDiff, Nat.zero_lt_succ, Value.category, true_and, or_true, true_or, and_true, false_implies, true_implies, not_false_eq_true, not_true_eq_false, List.map_cons, List.map_nil, List.sum_cons, List.sum_nil, va_up_eq, bx_uu, va_up_lit, List.length_cons, List.length_nil, List.drop_succ_cons, List.drop_zero, Option.toList_some, Option.toList_none, List.cons_append, List.nil_append, nI_1']))
        exact kk
  (iterate 4 (refine zS_one rfl ?_; simp (disch := (first | decide | assumption | omega)) only [i_push, i_null, i_ild, i_ald, i_ist, i_ast, i_inc, i_bin, i_div, i_un, i_dup, i_pop, i_dup2, i_if, i_icmp, i_nul, i_nnl, i_goto, i_getf, i_putf, i_gets, i_nald, i_nast, i_aald, i_aast, i_alen, i_new, i_newa, i_newq, i_math, i_oini, i_iret, i_zret, i_aret, i_vret, z_fit, List.getElem?_cons_zero, List.getElem?_cons_succ, List.set_cons_zero, List.set_cons_succ, Nat.reduceAdd, Nat.reduceLT, Nat.reduceLeDiff, Nat.reduceEqDiff, Nat.zero_lt_succ, Value.category, true_and, or_true, true_or, and_true, false_implies, true_implies, not_false_eq_true, not_true_eq_false, List.map_cons, List.map_nil, List.sum_cons, List.sum_nil, va_up_eq, bx_uu, va_up_lit, List.length_cons, List.length_nil, List.drop_succ_cons, List.drop_zero, Option.toList_some, Option.toList_none, List.cons_append, List.nil_append, nI_1']))
  refine it 1 0 (by decide) (it _ 1 (by decide) (it _ 2 (by decide) (it _ 3 (by decide) ?_)))
  have w4 : 4 ≤ nI (3 + 1) := by decide
  (repeat (refine zS_one rfl ?_; simp (disch := (first | decide | assumption | omega)) only [i_push, i_null, i_ild, i_ald, i_ist, i_ast, i_inc, i_bin, i_div, i_un, i_dup, i_pop, i_dup2, i_if, i_icmp, i_nul, i_nnl, i_goto, i_getf, i_putf, i_gets, i_nald, i_nast, i_aald, i_aast, i_alen, i_new, i_newa, i_newq, i_math, i_oini, i_iret, i_zret, i_aret, i_vret, z_fit, List.getElem?_cons_zero, List.getElem?_cons_succ, List.set_cons_zero, List.set_cons_succ, Nat.reduceAdd, Nat.reduceLT, Nat.reduceLeDiff, Nat.reduceEqDiff, Nat.zero_lt_succ, Value.category, true_and, or_true, true_or, and_true, false_implies, true_implies, not_false_eq_true, not_true_eq_false, List.map_cons, List.map_nil, List.sum_cons, List.sum_nil, va_up_eq, bx_uu, va_up_lit, List.length_cons, List.length_nil, List.drop_succ_cons, List.drop_zero, Option.toList_some, Option.toList_none, List.cons_append, List.nil_append, w4]))
  exact hP _ _ ⟨rfl, rfl⟩
set_option maxHeartbeats 4000000 in
theorem c_rtok (sc : Nat × (Nat → Int32)) (d : Nat) (ha : 44 ≤ a) {P : zP} {c p st i mi : Nat} {s : zR3} {x : Option Value} {h : zH} {n1 : Nat} {den1 : Nat → zT} (hw : wQ h0 a n den c k G m ps s.1 s.2.1 h n1 den1) (hmi : mi < m) (h1 : s.1 0 = nI p) (h2 : s.1 7 = nI st) (hr : p * 3 + st ≤ 4) (hi : i < 4) (hc : n + c + 3 < 720) (hat : isES (z_tok ((p * 3 + st) * 4 + i)) = 1 → s.2.2 < (ps mi).length) (hat3 : s.2.2 ≤ 3)
    (htok : z_tok ((p * 3 + st) * 4 + i) = 0 ∨ z_tok ((p * 3 + st) * 4 + i) = 1 ∨ z_tok ((p * 3 + st) * 4 + i) = 2 ∨ isMix (z_tok ((p * 3 + st) * 4 + i)))
    (hfail : rtok (z_tok ((p * 3 + st) * 4 + i)) (ps mi) s = none → ∀ (h' : zH) (I' : Nat → Int32) (Θ' : Nat → zT) (n' : Nat) (den' : Nat → zT), wQ h0 a n den (c + ct (z_tok ((p * 3 + st) * 4 + i))) k G m ps I' Θ' h' n' den' → P (some (.int 0)) h')
    (kk : ∀ (s' : zR3) (h' : zH) (x' : Option Value) (n' : Nat) (den' : Nat → zT), rtok (z_tok ((p * 3 + st) * 4 + i)) (ps mi) s = some s' → wQ h0 a n den (c + ct (z_tok ((p * 3 + st) * 4 + i))) k G m ps s'.1 s'.2.1 h' n' den' → zS (zMt zTab sc (d + 5), (0, 0), sc) k_Ag_readNext P (19, [some (.ref a), some (.ref 11), some (.int (nI mi)), some (.int (nI s'.2.2)), some (.int (nI (i + 1))), x'], [], h', 0, 0)) :
    zS (zMt zTab sc (d + 5), (0, 0), sc) k_Ag_readNext P (19, [some (.ref a), some (.ref 11), some (.int (nI mi)), some (.int (nI s.2.2)), some (.int (nI i)), x], [], h, 0, 0) := by
  obtain ⟨hx1, hw1, hf1⟩ := hw
  have hn1 := hx1.2.1
  have w1 : ¬ 4 ≤ nI i := by rw [show (4 : Int32) = nI 4 by decide]; exact nI_ge hi (by decide)
  have hw1' := hw1
  obtain ⟨hT, hM, x0, y0, z0, e, hx, hy, hz, hI⟩ := hw1
  have hm6 := hM.m
  have e0 := e
  unfold aF at e
  (repeat (refine zS_one rfl ?_; simp (disch := (first | decide | assumption | omega)) only [i_push, i_null, i_ild, i_ald, i_ist, i_ast, i_inc, i_bin, i_div, i_un, i_dup, i_pop, i_dup2, i_if, i_icmp, i_nul, i_nnl, i_goto, i_getf, i_putf, i_gets, i_nald, i_nast, i_aald, i_aast, i_alen, i_new, i_newa, i_newq, i_math, i_oini, i_iret, i_zret, i_aret, i_vret, z_fit, List.getElem?_cons_zero, List.getElem?_cons_succ, List.set_cons_zero, List.set_cons_succ, Nat.reduceAdd, Nat.reduceLT, Nat.reduceLeDiff, Nat.reduceEqDiff, Nat.zero_lt_succ, Value.category, true_and, or_true, true_or, and_true, false_implies, true_implies, not_false_eq_true, not_true_eq_false, List.map_cons, List.map_nil, List.sum_cons, List.sum_nil, va_up_eq, bx_uu, va_up_lit, List.length_cons, List.length_nil, List.drop_succ_cons, List.drop_zero, Option.toList_some, Option.toList_none, List.cons_append, List.nil_append, w1]))
  (try refine zS_one rfl ?_)
  refine r_callV (c_tokenAt sc (d + 4) e0 h1 h2 hr hi) rfl rfl rfl rfl e (Nat.le_refl _) (Nat.le_refl _) ?_
  rintro r h' ⟨rfl, rfl⟩
  generalize z_tok ((p * 3 + st) * 4 + i) = tok at hat htok hfail kk ⊢
  have q20 : ¬ (2 : Int32) = 1 := by decide
  have q01 : ¬ (0 : Int32) = 1 := by decide
  have q02 : ¬ (0 : Int32) = 2 := by decide
  have q10 : ¬ (1 : Int32) = 0 := by decide
  -- e or s
  have es : (tok = 1 ∨ tok = 2) → zS (zMt zTab sc (d + 5), (0, 0), sc) k_Ag_readNext P (45, [some (.ref a), some (.ref 11), some (.int (nI mi)), some (.int (nI s.2.2)), some (.int (nI i)), some (.int tok)], [], h', 0, 0) := by
    intro ht
    have hat1 := hat (if_pos ht)
    (repeat (refine zS_one rfl ?_; simp (disch := (first | decide | assumption | omega)) only [i_push, i_null, i_ild, i_ald, i_ist, i_ast, i_inc, i_bin, i_div, i_un, i_dup, i_pop, i_dup2, i_if, i_icmp, i_nul, i_nnl, i_goto, i_getf, i_putf, i_gets, i_nald, i_nast, i_aald, i_aast, i_alen, i_new, i_newa, i_newq, i_math, i_oini, i_iret, i_zret, i_aret, i_vret, z_fit, List.getElem?_cons_zero, List.getElem?_cons_succ, List.set_cons_zero, List.set_cons_succ, Nat.reduceAdd, Nat.reduceLT, Nat.reduceLeDiff, Nat.reduceEqDiff, Nat.zero_lt_succ, Value.category, true_and, or_true, true_or, and_true, false_implies, true_implies, not_false_eq_true, not_true_eq_false, List.map_cons, List.map_nil, List.sum_cons, List.sum_nil, va_up_eq, bx_uu, va_up_lit, List.length_cons, List.length_nil, List.drop_succ_cons, List.drop_zero, Option.toList_some, Option.toList_none, List.cons_append, List.nil_append]))
    (try refine zS_one rfl ?_)
    refine r_callV (c_partAt sc (d + 2) hM (nI mi) (nI s.2.2)) rfl rfl rfl rfl hM.o (Nat.le_refl _) (Nat.le_refl _) ?_
    rintro r h2 ⟨rfl, ⟨a', b', t, g1, g2, g3, g4, g5, g6, rfl⟩ | ⟨rfl, g⟩⟩
    rotate_left
    · exact absurd rfl (g mi s.2.2 hmi rfl hat1)
    have ea := nI_inj (by omega) (by omega) g2
    subst ea
    have eb : s.2.2 = b' := nI_inj (by omega) (by
      have := (List.getElem?_eq_some_iff.mp g4).1
      obtain ⟨Sz, Rw, -, -, hR, -⟩ := hM
      have := (hR mi (by omega)).1
      omega) g3
    subst eb
    have hrt : rtok tok (ps mi) s = (rk tok s.1 s.2.1 (den1 t)).map (fun q => (q.1, q.2, s.2.2 + 1)) := by
      unfold rtok
      rw [if_pos ht, g4]
    (repeat (refine zS_one rfl ?_; simp (disch := (first | decide | assumption | omega)) only [i_push, i_null, i_ild, i_ald, i_ist, i_ast, i_inc, i_bin, i_div, i_un, i_dup, i_pop, i_dup2, i_if, i_icmp, i_nul, i_nnl, i_goto, i_getf, i_putf, i_gets, i_nald, i_nast, i_aald, i_aast, i_alen, i_new, i_newa, i_newq, i_math, i_oini, i_iret, i_zret, i_aret, i_vret, z_fit, List.getElem?_cons_zero, List.getElem?_cons_succ, List.set_cons_zero, List.set_cons_succ, Nat.reduceAdd, Nat.reduceLT, Nat.reduceLeDiff, Nat.reduceEqDiff, Nat.zero_lt_succ, Value.category, true_and, or_true, true_or, and_true, false_implies, true_implies, not_false_eq_true, not_true_eq_false, List.map_cons, List.map_nil, List.sum_cons, List.sum_nil, va_up_eq, bx_uu, va_up_lit, List.length_cons, List.length_nil, List.drop_succ_cons, List.drop_zero, Option.toList_some, Option.toList_none, List.cons_append, List.nil_append]))
    (try refine zS_one rfl ?_)
    refine r_callV (c_readKey sc (d + 1) ha hw1' (by omega) ht g5 g6) rfl rfl rfl rfl e (Nat.le_refl _) (Nat.le_refl _) ?_
    have hct : 1 ≤ ct tok := by rcases ht with rfl | rfl <;> decide
    rintro r h3 (⟨I', Θ', n', den', hk, rfl, hx3, hw3, hf3⟩ | ⟨I', Θ', n', den', hk, rfl, hx3, hw3, hf3⟩)
    · rw [hk] at hrt
      (iterate 5 (refine zS_one rfl ?_; simp (disch := (first | decide | assumption | omega)) only [i_push, i_null, i_ild, i_ald, i_ist, i_ast, i_inc, i_bin, i_div, i_un, i_dup, i_pop, i_dup2, i_if, i_icmp, i_nul, i_nnl, i_goto, i_getf, i_putf, i_gets, i_nald, i_nast, i_aald, i_aast, i_alen, i_new, i_newa, i_newq, i_math, i_oini, i_iret, i_zret, i_aret, i_vret, z_fit, List.getElem?_cons_zero, List.getElem?_cons_succ, List.set_cons_zero, List.set_cons_succ, Nat.reduceAdd, Nat.reduceLT, Nat.reduceLeDiff, Nat.reduceEqDiff, Nat.zero_lt_succ, Value.category, true_and, or_true, true_or, and_true, false_implies, true_implies, not_false_eq_true, not_true_eq_false, List.map_cons, List.map_nil, List.sum_cons, List.sum_nil, va_up_eq, bx_uu, va_up_lit, List.length_cons, List.length_nil, List.drop_succ_cons, List.drop_zero, Option.toList_some, Option.toList_none, List.cons_append, List.nil_append, q10, nI_1']))
      exact kk _ _ _ n' den' hrt ⟨(hx1.tr hx3).le (by omega), hw3, hf1.tr hf3⟩
    · rw [hk] at hrt
      (repeat (refine zS_one rfl ?_; simp (disch := (first | decide | assumption | omega)) only [i_push, i_null, i_ild, i_ald, i_ist, i_ast, i_inc, i_bin, i_div, i_un, i_dup, i_pop, i_dup2, i_if, i_icmp, i_nul, i_nnl, i_goto, i_getf, i_putf, i_gets, i_nald, i_nast, i_aald, i_aast, i_alen, i_new, i_newa, i_newq, i_math, i_oini, i_iret, i_zret, i_aret, i_vret, z_fit, List.getElem?_cons_zero, List.getElem?_cons_succ, List.set_cons_zero, List.set_cons_succ, Nat.reduceAdd, Nat.reduceLT, Nat.reduceLeDiff, Nat.reduceEqDiff, Nat.zero_lt_succ, Value.category, true_and, or_true, true_or, and_true, false_implies, true_implies, not_false_eq_true, not_true_eq_false, List.map_cons, List.map_nil, List.sum_cons, List.sum_nil, va_up_eq, bx_uu, va_up_lit, List.length_cons, List.length_nil, List.drop_succ_cons, List.drop_zero, Option.toList_some, Option.toList_none, List.cons_append, List.nil_append]))
      exact hfail hrt _ _ _ n' den' ⟨(hx1.tr hx3).le (by omega), hw3, hf1.tr hf3⟩
  rcases htok with rfl | rfl | rfl | htok
  · (iterate 11 (refine zS_one rfl ?_; simp (disch := (first | decide | assumption | omega)) only [i_push, i_null, i_ild, i_ald, i_ist, i_ast, i_inc, i_bin, i_div, i_un, i_dup, i_pop, i_dup2, i_if, i_icmp, i_nul, i_nnl, i_goto, i_getf, i_putf, i_gets, i_nald, i_nast, i_aald, i_aast, i_alen, i_new, i_newa, i_newq, i_math, i_oini, i_iret, i_zret, i_aret, i_vret, z_fit, List.getElem?_cons_zero, List.getElem?_cons_succ, List.set_cons_zero, List.set_cons_succ, Nat.reduceAdd, Nat.reduceLT, Nat.reduceLeDiff, Nat.reduceEqDiff, Nat.zero_lt_succ, Value.category, true_and, or_true, true_or, and_true, false_implies, true_implies, not_false_eq_true, not_true_eq_false, List.map_cons, List.map_nil, List.sum_cons, List.sum_nil, va_up_eq, bx_uu, va_up_lit, List.length_cons, List.length_nil, List.drop_succ_cons, List.drop_zero, Option.toList_some, Option.toList_none, List.cons_append, List.nil_append, q01, q02, nI_1']))
    refine kk s _ _ n1 den1 ?_ ⟨hx1.le (by omega), hw1', hf1⟩
    unfold rtok
    rw [if_neg (fun z => z.elim q01 q02), if_pos rfl]
  · (iterate 4 (refine zS_one rfl ?_; simp (disch := (first | decide | assumption | omega)) only [i_push, i_null, i_ild, i_ald, i_ist, i_ast, i_inc, i_bin, i_div, i_un, i_dup, i_pop, i_dup2, i_if, i_icmp, i_nul, i_nnl, i_goto, i_getf, i_putf, i_gets, i_nald, i_nast, i_aald, i_aast, i_alen, i_new, i_newa, i_newq, i_math, i_oini, i_iret, i_zret, i_aret, i_vret, z_fit, List.getElem?_cons_zero, List.getElem?_cons_succ, List.set_cons_zero, List.set_cons_succ, Nat.reduceAdd, Nat.reduceLT, Nat.reduceLeDiff, Nat.reduceEqDiff, Nat.zero_lt_succ, Value.category, true_and, or_true, true_or, and_true, false_implies, true_implies, not_false_eq_true, not_true_eq_false, List.map_cons, List.map_nil, List.sum_cons, List.sum_nil, va_up_eq, bx_uu, va_up_lit, List.length_cons, List.length_nil, List.drop_succ_cons, List.drop_zero, Option.toList_some, Option.toList_none, List.cons_append, List.nil_append, q10]))
    exact es (Or.inl rfl)
  · (iterate 7 (refine zS_one rfl ?_; simp (disch := (first | decide | assumption | omega)) only [i_push, i_null, i_ild, i_ald, i_ist, i_ast, i_inc, i_bin, i_div, i_un, i_dup, i_pop, i_dup2, i_if, i_icmp, i_nul, i_nnl, i_goto, i_getf, i_putf, i_gets, i_nald, i_nast, i_aald, i_aast, i_alen, i_new, i_newa, i_newq, i_math, i_oini, i_iret, i_zret, i_aret, i_vret, z_fit, List.getElem?_cons_zero, List.getElem?_cons_succ, List.set_cons_zero, List.set_cons_succ, Nat.reduceAdd, Nat.reduceLT, Nat.reduceLeDiff, Nat.reduceEqDiff, Nat.zero_lt_succ, Value.category, true_and, or_true, true_or, and_true, false_implies, true_implies, not_false_eq_true, not_true_eq_false, List.map_cons, List.map_nil, List.sum_cons, List.sum_nil, va_up_eq, bx_uu, va_up_lit, List.length_cons, List.length_nil, List.drop_succ_cons, List.drop_zero, Option.toList_some, Option.toList_none, List.cons_append, List.nil_append, q20]))
    exact es (Or.inr rfl)
  · have t1 : ¬ tok = 1 := by rcases htok with rfl | rfl | rfl | rfl <;> decide
    have t2 : ¬ tok = 2 := by rcases htok with rfl | rfl | rfl | rfl <;> decide
    have t0 : ¬ tok = 0 := by rcases htok with rfl | rfl | rfl | rfl <;> decide
    (repeat (refine zS_one rfl ?_; simp (disch := (first | decide | assumption | omega)) only [i_push, i_null, i_ild, i_ald, i_ist, i_ast, i_inc, i_bin, i_div, i_un, i_dup, i_pop, i_dup2, i_if, i_icmp, i_nul, i_nnl, i_goto, i_getf, i_putf, i_gets, i_nald, i_nast, i_aald, i_aast, i_alen, i_new, i_newa, i_newq, i_math, i_oini, i_iret, i_zret, i_aret, i_vret, z_fit, List.getElem?_cons_zero, List.getElem?_cons_succ, List.set_cons_zero, List.set_cons_succ, Nat.reduceAdd, Nat.reduceLT, Nat.reduceLeDiff, Nat.reduceEqDiff, Nat.zero_lt_succ, Value.category, true_and, or_true, true_or, and_true, false_implies, true_implies, not_false_eq_true, not_true_eq_false, List.map_cons, List.map_nil, List.sum_cons, List.sum_nil, va_up_eq, bx_uu, va_up_lit, List.length_cons, List.length_nil, List.drop_succ_cons, List.drop_zero, Option.toList_some, Option.toList_none, List.cons_append, List.nil_append, e, t1, t2, t0]))
    (try refine zS_one rfl ?_)
    refine r_callV (c_mixKeys sc (d + 1) ha hw1' (by omega) htok) rfl rfl rfl rfl e (Nat.le_refl _) (Nat.le_refl _) ?_
    rintro r h2 ⟨rfl, n2, den2, hx2, hw2, hf2⟩
    have hct : ct tok = 3 := by unfold ct; rw [if_neg t1, if_neg t2, if_neg t0]
    (iterate 2 (refine zS_one rfl ?_; simp (disch := (first | decide | assumption | omega)) only [i_push, i_null, i_ild, i_ald, i_ist, i_ast, i_inc, i_bin, i_div, i_un, i_dup, i_pop, i_dup2, i_if, i_icmp, i_nul, i_nnl, i_goto, i_getf, i_putf, i_gets, i_nald, i_nast, i_aald, i_aast, i_alen, i_new, i_newa, i_newq, i_math, i_oini, i_iret, i_zret, i_aret, i_vret, z_fit, List.getElem?_cons_zero, List.getElem?_cons_succ, List.set_cons_zero, List.set_cons_succ, Nat.reduceAdd, Nat.reduceLT, Nat.reduceLeDiff, Nat.reduceEqDiff, Nat.zero_lt_succ, Value.category, true_and, or_true, true_or, and_true, false_implies, true_implies, not_false_eq_true, not_true_eq_false, List.map_cons, List.map_nil, List.sum_cons, List.sum_nil, va_up_eq, bx_uu, va_up_lit, List.length_cons, List.length_nil, List.drop_succ_cons, List.drop_zero, Option.toList_some, Option.toList_none, List.cons_append, List.nil_append, nI_1']))
    refine kk (va_up s.1 6 0, mixΘ tok s.1 s.2.1, s.2.2) _ _ n2 den2 ?_ ⟨by rw [hct]; exact hx1.tr hx2, hw2, hf1.tr hf2⟩
    unfold rtok
    rw [if_neg (fun z => z.elim t1 t2), if_neg t0]
end AG7
