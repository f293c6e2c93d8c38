/-! Agreement: reading. -/
def oPre (I : Nat → Int32) (Θ : Nat → zT) : zT := nd 8 (I 6).toInt 0 (Θ 2) (Θ 0) []
def opnF (I : Nat → Int32) (Θ : Nat → zT) (τ : zT) : Option zT := if Θ 2 = [] then some τ else if τ.take (oPre I Θ).length = oPre I Θ then some (τ.drop (oPre I Θ).length) else none
theorem nd_pre (k a b : Int) (t u w : zT) : nd k a b t u w = nd k a b t u [] ++ w := by
  unfold nd
  simp
theorem opn_F {I : Nat → Int32} {Θ : Nat → zT} {τ Z : zT} : opn I Θ τ Z ↔ opnF I Θ τ = some Z := by
  unfold opn opnF
  by_cases hk : Θ 2 = []
  · rw [if_pos hk]
    constructor
    · rintro (⟨-, rfl⟩ | ⟨h, -⟩)
      · rfl
      · exact absurd hk h
    · intro h
      exact Or.inl ⟨hk, (Option.some.inj h).symm⟩
  · rw [if_neg hk]
    constructor
    · rintro (⟨h, -⟩ | ⟨-, h⟩)
      · exact absurd h hk
      · have e : τ = oPre I Θ ++ Z := by rw [h]; exact nd_pre _ _ _ _ _ _
        rw [e, List.take_left', List.drop_left', if_pos rfl]
        · rfl
        · rfl
    · intro h
      split at h
      · next e =>
        refine Or.inr ⟨hk, ?_⟩
        rw [nd_pre]
        have h1 := List.take_append_drop (oPre I Θ).length τ
        rw [e, Option.some.inj h] at h1
        exact h1.symm
      · cases h
theorem pub_key {h : zH} {n k t : Nat} {den : Nat → zT} {G : Nat → Int32} (hO : tOK h n k den G) (h1 : 0 < t) (h2 : t ≤ n) (hk : tkd (den t) = 2) : key20 (tv (den t)) := by
  obtain ⟨T, hS, hI, hG⟩ := hO
  have hr := hI.2.2.2.2.2.1 t h1 h2
  rw [rw_C_tv hr (Or.inr hk)]
  rw [rw_C_kd hr] at hk
  rcases hr with ⟨hk', h⟩ | ⟨hk', hp, h⟩ | ⟨hk', h⟩ | ⟨hk', h⟩ | ⟨hk', h⟩ | ⟨hk', h⟩
  · exfalso; rw [hk'] at hk; revert hk; decide
  · exact hp
  · exfalso; rw [hk'] at hk; revert hk; decide
  · exfalso; rcases hk' with hk' | hk' | hk' <;> rw [hk'] at hk <;> revert hk <;> decide
  · exfalso; rw [hk'] at hk; revert hk; decide
  · exfalso; rw [hk'] at hk; revert hk; decide
/-- e or s read out of a part -/
noncomputable def rk (tok : Int32) (I : Nat → Int32) (Θ : Nat → zT) (τ : zT) : Option ((Nat → Int32) × (Nat → zT)) :=
  if tok = 1 then (if tkd τ = 2 then some (va_up I 5 (tv τ), hsh Θ τ) else none)
  else match opnF I Θ τ with
    | some Z => if tkd Z = 2 then some (va_up (inc I Θ) 4 (tv Z), hsh Θ τ) else none
    | none => none
section AG6
variable {h0 : zH} {a n k m : Nat} {den : Nat → zT} {G : Nat → Int32} {ps : Nat → List zT} {I : Nat → Int32} {Θ : Nat → zT}
set_option maxHeartbeats 4000000 in
theorem c_readKey (sc : Nat × (Nat → Int32)) (d : Nat) (ha : 44 ≤ a) (hw : wld h0 a n k den G m ps I Θ) (hn : n < 719) {tok : Int32} (htok : tok = 1 ∨ tok = 2) {t : Nat} (ht : 0 < t) (htn : t ≤ n) : zMt zTab sc (d + 4) 10 [.ref a, .int tok, .int (nI t)] h0 0 0 (fun r h' => (∃ I' Θ' n' den', rk tok I Θ (den t) = some (I', Θ') ∧ r = some (.int 1) ∧ wQ h0 a n den 1 k G m ps I' Θ' h' n' den') ∨ (∃ I' Θ' n' den', rk tok I Θ (den t) = none ∧ r = some (.int 0) ∧ wQ h0 a n den 1 k G m ps I' Θ' h' n' den')) := by
  refine zM_gen fun P hP => ?_
  refine zM_start (r := r_Ag_readKey) (cd := k_Ag_readKey) (L0 := [some (.ref a), some (.int tok), some (.int (nI t)), none]) rfl rfl rfl rfl rfl ?_
  -- behind the taking: u is the term inside, I1 the numbers then
  have tail : ∀ (u : Nat) (I1 : Nat → Int32) (h1 : zH), wld h1 a n k den G m ps I1 Θ → frA a h0 h1 → u ≤ n → (0 < u → tkd (den u) = 2 → rk tok I Θ (den t) = some (va_up I1 (if tok = 1 then 5 else 4) (tv (den u)), hsh Θ (den t))) → ((u = 0 ∨ tkd (den u) ≠ 2) → rk tok I Θ (den t) = none) → zS (zMt zTab sc (d + 3), (0, 0), sc) k_Ag_readKey P (14, [some (.ref a), some (.int tok), some (.int (nI t)), none], [.int (nI u)], h1, 0, 0) := by
    intro u I1 h1 hw1 hf1 hun hyes hno
    have hw1' := hw1
    obtain ⟨hT, hM, x, y, z, e, hx, hy, hz, hI⟩ := hw1
    have e0 := e
    unfold aF at e
    (repeat (refine zS_one rfl ?_; simp (disch := (first | decide | assumption | omega)) only [i_push, i_null, i_ild, i_ald, i_ist, i_ast, i_inc, i_bin, i_div, i_un, i_dup, i_pop, i_dup2, i_if, i_icmp, i_nul, i_nnl, i_goto, i_getf, i_putf, i_gets, i_nald, i_nast, i_aald, i_aast, i_alen, i_new, i_newa, i_newq, i_math, i_oini, i_iret, i_zret, i_aret, i_vret, z_fit, List.getElem?_cons_zero, List.getElem?_cons_succ, List.set_cons_zero, List.set_cons_succ, Nat.reduceAdd, Nat.reduceLT, Nat.reduceLeDiff, Nat.reduceEqDiff, Nat.zero_lt_succ, Value.category, true_and, or_true, true_or, and_true, false_implies, true_implies, not_false_eq_true, not_true_eq_false, List.map_cons, List.map_nil, List.sum_cons, List.sum_nil, va_up_eq, bx_uu, va_up_lit, List.length_cons, List.length_nil, List.drop_succ_cons, List.drop_zero, Option.toList_some, Option.toList_none, List.cons_append, List.nil_append, e]))
    (try refine zS_one rfl ?_)
    refine r_callV (c_isPub sc (d + 2) hT hun) rfl rfl rfl rfl hT.o (Nat.le_refl _) (Nat.le_refl _) ?_
    have q1 : ¬ (1 : Int32) = 0 := by decide
    rintro r h' ⟨rfl, ⟨rfl, hu0, hk⟩ | ⟨rfl, hk⟩⟩
    · have hkey := pub_key hT hu0 hun hk
      have fin : ∀ (I2 : Nat → Int32) (h2 : zH), h2 = (va_up h'.1 a (.inr (0, aF I2 x y z)), h'.2) → iOK I2 → rk tok I Θ (den t) = some (I2, hsh Θ (den t)) → zS (zMt zTab sc (d + 3), (0, 0), sc) k_Ag_readKey P (60, [some (.ref a), some (.int tok), some (.int (nI t)), some (.int (nI u))], [], h2, 0, 0) := by
        intro I2 h2 hh2 hI2 hr2
        subst hh2
        have hw2 : wld (va_up h'.1 a (.inr (0, aF I2 x y z)), h'.2) a n k den G m ps I2 Θ := wld_set ha hT hM hx hy hz hI2
        have e2 : (va_up h'.1 a (.inr (0, aF I2 x y z)), h'.2).1 a = .inr (0, aF I2 x y z) := va_up_eq _ _ _
        generalize hg : ((va_up h'.1 a (.inr (0, aF I2 x y z)), h'.2) : zH) = h2 at hw2 e2 ⊢
        unfold aF at e2
        (repeat (refine zS_one rfl ?_; simp (disch := (first | decide | assumption | omega)) only [i_push, i_null, i_ild, i_ald, i_ist, i_ast, i_inc, i_bin, i_div, i_un, i_dup, i_pop, i_dup2, i_if, i_icmp, i_nul, i_nnl, i_goto, i_getf, i_putf, i_gets, i_nald, i_nast, i_aald, i_aast, i_alen, i_new, i_newa, i_newq, i_math, i_oini, i_iret, i_zret, i_aret, i_vret, z_fit, List.getElem?_cons_zero, List.getElem?_cons_succ, List.set_cons_zero, List.set_cons_succ, Nat.reduceAdd, Nat.reduceLT, Nat.reduceLeDiff, Nat.reduceEqDiff, Nat.zero_lt_succ, Value.category, true_and, or_true, true_or, and_true, false_implies, true_implies, not_false_eq_true, not_true_eq_false, List.map_cons, List.map_nil, List.sum_cons, List.sum_nil, va_up_eq, bx_uu, va_up_lit, List.length_cons, List.length_nil, List.drop_succ_cons, List.drop_zero, Option.toList_some, Option.toList_none, List.cons_append, List.nil_append, e2]))
        (try refine zS_one rfl ?_)
        refine r_callV (c_hash sc d hw2.1 hn hx.1 hx.2.1 ht htn) rfl rfl rfl rfl hw2.1.o (Nat.le_refl _) (Nat.le_refl _) ?_
        rintro r h3 ⟨v, n3, den3, rfl, v1, v2, v3, hT3, g1, g2, g3, hf3⟩
        have hx3 : exq n den n3 den3 1 := ⟨g1, g2, g3⟩
        have e3 : h3.1 a = _ := (hf3.1 a (by omega)).trans e2
        have hM3 := (hw2.mk ha hT3 hx3 hf3 (by decide)).2.1
        (repeat (refine zS_one rfl ?_; simp (disch := (first | decide | assumption | omega)) only [i_push, i_null, i_ild, i_ald, i_ist, i_ast, i_inc, i_bin, i_div, i_un, i_dup, i_pop, i_dup2, i_if, i_icmp, i_nul, i_nnl, i_goto, i_getf, i_putf, i_gets, i_nald, i_nast, i_aald, i_aast, i_alen, i_new, i_newa, i_newq, i_math, i_oini, i_iret, i_zret, i_aret, i_vret, z_fit, List.getElem?_cons_zero, List.getElem?_cons_succ, List.set_cons_zero, List.set_cons_succ, Nat.reduceAdd, Nat.reduceLT, Nat.reduceLeDiff, Nat.reduceEqDiff, Nat.zero_lt_succ, Value.category, true_and, or_true, true_or, and_true, false_implies, true_implies, not_false_eq_true, not_true_eq_false, List.map_cons, List.map_nil, List.sum_cons, List.sum_nil, va_up_eq, bx_uu, va_up_lit, List.length_cons, List.length_nil, List.drop_succ_cons, List.drop_zero, Option.toList_some, Option.toList_none, List.cons_append, List.nil_append, e3]))
        refine hP _ _ (Or.inl ⟨I2, hsh Θ (den t), n3, den3, hr2, rfl, hx3, wld_set (I := I2) (x := v) (y := y) (z := z) ha hT3 hM3 ⟨v1, v2, by rw [v3, hx.2.2]; exact (va_up_eq Θ 0 _).symm⟩ ⟨hy.1, by have := hy.2.1; omega, by rw [g3 y hy.1 hy.2.1, hy.2.2]; rfl⟩ ?_ hI2, ?_⟩)
        · rcases hz with hz | ⟨z1, z2, z3, z4⟩
          · exact Or.inl hz
          · exact Or.inr ⟨z1, by omega, by rw [g3 z z1 z2, z3]; rfl, z4⟩
        · have : frA a h0 h2 := by rw [← hg]; exact hf1.tr frA_set
          exact (this.tr (hf3.A (by decide) (by decide))).tr frA_set
      have hyes := hyes hu0 hk
      rcases htok with rfl | rfl
      · (repeat (refine zS_one rfl ?_; simp (disch := (first | decide | assumption | omega)) only [i_push, i_null, i_ild, i_ald, i_ist, i_ast, i_inc, i_bin, i_div, i_un, i_dup, i_pop, i_dup2, i_if, i_icmp, i_nul, i_nnl, i_goto, i_getf, i_putf, i_gets, i_nald, i_nast, i_aald, i_aast, i_alen, i_new, i_newa, i_newq, i_math, i_oini, i_iret, i_zret, i_aret, i_vret, z_fit, List.getElem?_cons_zero, List.getElem?_cons_succ, List.set_cons_zero, List.set_cons_succ, Nat.reduceAdd, Nat.reduceLT, Nat.reduceLeDiff, Nat.reduceEqDiff, Nat.zero_lt_succ, Value.category, true_and, or_true, true_or, and_true, false_implies, true_implies, not_false_eq_true, not_true_eq_false, List.map_cons, List.map_nil, List.sum_cons, List.sum_nil, va_up_eq, bx_uu, va_up_lit, List.length_cons, List.length_nil, List.drop_succ_cons, List.drop_zero, Option.toList_some, Option.toList_none, List.cons_append, List.nil_append, e, q1]))
        (try refine zS_one rfl ?_)
        refine r_callV (c_valueOf sc (d + 2) hT hu0 hun (Or.inr hk)) rfl rfl rfl rfl hT.o (Nat.le_refl _) (Nat.le_refl _) ?_
        rintro r h2 ⟨rfl, rfl⟩
        (iterate 2 (refine zS_one rfl ?_; simp (disch := (first | decide | assumption | omega)) only [i_push, i_null, i_ild, i_ald, i_ist, i_ast, i_inc, i_bin, i_div, i_un, i_dup, i_pop, i_dup2, i_if, i_icmp, i_nul, i_nnl, i_goto, i_getf, i_putf, i_gets, i_nald, i_nast, i_aald, i_aast, i_alen, i_new, i_newa, i_newq, i_math, i_oini, i_iret, i_zret, i_aret, i_vret, z_fit, List.getElem?_cons_zero, List.getElem?_cons_succ, List.set_cons_zero, List.set_cons_succ, Nat.reduceAdd, Nat.reduceLT, Nat.reduceLeDiff, Nat.reduceEqDiff, Nat.zero_lt_succ, Value.category, true_and, or_true, true_or, and_true, false_implies, true_implies, not_false_eq_true, not_true_eq_false, List.map_cons, List.map_nil, List.sum_cons, List.sum_nil, va_up_eq, bx_uu, va_up_lit, List.length_cons, List.length_nil, List.drop_succ_cons, List.drop_zero, Option.toList_some, Option.toList_none, List.cons_append, List.nil_append, e]))
        exact fin (va_up I1 5 (tv (den u))) _ rfl ⟨hI.1, hI.2.1, hI.2.2.1, hI.2.2.2.1, hI.2.2.2.2.1, hkey, hI.2.2.2.2.2.2⟩ hyes
      · have q21 : ¬ (2 : Int32) = 1 := by decide
        (repeat (refine zS_one rfl ?_; simp (disch := (first | decide | assumption | omega)) only [i_push, i_null, i_ild, i_ald, i_ist, i_ast, i_inc, i_bin, i_div, i_un, i_dup, i_pop, i_dup2, i_if, i_icmp, i_nul, i_nnl, i_goto, i_getf, i_putf, i_gets, i_nald, i_nast, i_aald, i_aast, i_alen, i_new, i_newa, i_newq, i_math, i_oini, i_iret, i_zret, i_aret, i_vret, z_fit, List.getElem?_cons_zero, List.getElem?_cons_succ, List.set_cons_zero, List.set_cons_succ, Nat.reduceAdd, Nat.reduceLT, Nat.reduceLeDiff, Nat.reduceEqDiff, Nat.zero_lt_succ, Value.category, true_and, or_true, true_or, and_true, false_implies, true_implies, not_false_eq_true, not_true_eq_false, List.map_cons, List.map_nil, List.sum_cons, List.sum_nil, va_up_eq, bx_uu, va_up_lit, List.length_cons, List.length_nil, List.drop_succ_cons, List.drop_zero, Option.toList_some, Option.toList_none, List.cons_append, List.nil_append, e, q1, q21]))
        (try refine zS_one rfl ?_)
        refine r_callV (c_valueOf sc (d + 2) hT hu0 hun (Or.inr hk)) rfl rfl rfl rfl hT.o (Nat.le_refl _) (Nat.le_refl _) ?_
        rintro r h2 ⟨rfl, rfl⟩
        (iterate 1 (refine zS_one rfl ?_; simp (disch := (first | decide | assumption | omega)) only [i_push, i_null, i_ild, i_ald, i_ist, i_ast, i_inc, i_bin, i_div, i_un, i_dup, i_pop, i_dup2, i_if, i_icmp, i_nul, i_nnl, i_goto, i_getf, i_putf, i_gets, i_nald, i_nast, i_aald, i_aast, i_alen, i_new, i_newa, i_newq, i_math, i_oini, i_iret, i_zret, i_aret, i_vret, z_fit, List.getElem?_cons_zero, List.getElem?_cons_succ, List.set_cons_zero, List.set_cons_succ, Nat.reduceAdd, Nat.reduceLT, Nat.reduceLeDiff, Nat.reduceEqDiff, Nat.zero_lt_succ, Value.category, true_and, or_true, true_or, and_true, false_implies, true_implies, not_false_eq_true, not_true_eq_false, List.map_cons, List.map_nil, List.sum_cons, List.sum_nil, va_up_eq, bx_uu, va_up_lit, List.length_cons, List.length_nil, List.drop_succ_cons, List.drop_zero, Option.toList_some, Option.toList_none, List.cons_append, List.nil_append, e]))
        exact fin (va_up I1 4 (tv (den u))) _ rfl ⟨hI.1, hI.2.1, hI.2.2.1, hI.2.2.2.1, hkey, hI.2.2.2.2.2⟩ hyes
    · (repeat (refine zS_one rfl ?_; simp (disch := (first | decide | assumption | omega)) only [i_push, i_null, i_ild, i_ald, i_ist, i_ast, i_inc, i_bin, i_div, i_un, i_dup, i_pop, i_dup2, i_if, i_icmp, i_nul, i_nnl, i_goto, i_getf, i_putf, i_gets, i_nald, i_nast, i_aald, i_aast, i_alen, i_new, i_newa, i_newq, i_math, i_oini, i_iret, i_zret, i_aret, i_vret, z_fit, List.getElem?_cons_zero, List.getElem?_cons_succ, List.set_cons_zero, List.set_cons_succ, Nat.reduceAdd, Nat.reduceLT, Nat.reduceLeDiff, Nat.reduceEqDiff, Nat.zero_lt_succ, Value.category, true_and, or_true, true_or, and_true, false_implies, true_implies, not_false_eq_true, not_true_eq_false, List.map_cons, List.map_nil, List.sum_cons, List.sum_nil, va_up_eq, bx_uu, va_up_lit, List.length_cons, List.length_nil, List.drop_succ_cons, List.drop_zero, Option.toList_some, Option.toList_none, List.cons_append, List.nil_append]))
      exact hP _ _ (Or.inr ⟨I1, Θ, n, den, hno hk, rfl, exq.rf, hw1', hf1⟩)
  rcases htok with rfl | rfl
  · (iterate 5 (refine zS_one rfl ?_; simp (disch := (first | decide | assumption | omega)) only [i_push, i_null, i_ild, i_ald, i_ist, i_ast, i_inc, i_bin, i_div, i_un, i_dup, i_pop, i_dup2, i_if, i_icmp, i_nul, i_nnl, i_goto, i_getf, i_putf, i_gets, i_nald, i_nast, i_aald, i_aast, i_alen, i_new, i_newa, i_newq, i_math, i_oini, i_iret, i_zret, i_aret, i_vret, z_fit, List.getElem?_cons_zero, List.getElem?_cons_succ, List.set_cons_zero, List.set_cons_succ, Nat.reduceAdd, Nat.reduceLT, Nat.reduceLeDiff, Nat.reduceEqDiff, Nat.zero_lt_succ, Value.category, true_and, or_true, true_or, and_true, false_implies, true_implies, not_false_eq_true, not_true_eq_false, List.map_cons, List.map_nil, List.sum_cons, List.sum_nil, va_up_eq, bx_uu, va_up_lit, List.length_cons, List.length_nil, List.drop_succ_cons, List.drop_zero, Option.toList_some, Option.toList_none, List.cons_append, List.nil_append, nI_1']))
    refine tail t I h0 hw frA.rf htn (fun _ hk => ?_) (fun hk => ?_)
    · unfold rk; rw [if_pos rfl, if_pos hk]; rfl
    · unfold rk; rw [if_pos rfl, if_neg (hk.resolve_left (by omega))]
  · have q21 : ¬ (2 : Int32) = 1 := by decide
    obtain ⟨x, y, z, e, -⟩ := hw.2.2
    (repeat (refine zS_one rfl ?_; simp (disch := (first | decide | assumption | omega)) only [i_push, i_null, i_ild, i_ald, i_ist, i_ast, i_inc, i_bin, i_div, i_un, i_dup, i_pop, i_dup2, i_if, i_icmp, i_nul, i_nnl, i_goto, i_getf, i_putf, i_gets, i_nald, i_nast, i_aald, i_aast, i_alen, i_new, i_newa, i_newq, i_math, i_oini, i_iret, i_zret, i_aret, i_vret, z_fit, List.getElem?_cons_zero, List.getElem?_cons_succ, List.set_cons_zero, List.set_cons_succ, Nat.reduceAdd, Nat.reduceLT, Nat.reduceLeDiff, Nat.reduceEqDiff, Nat.zero_lt_succ, Value.category, true_and, or_true, true_or, and_true, false_implies, true_implies, not_false_eq_true, not_true_eq_false, List.map_cons, List.map_nil, List.sum_cons, List.sum_nil, va_up_eq, bx_uu, va_up_lit, List.length_cons, List.length_nil, List.drop_succ_cons, List.drop_zero, Option.toList_some, Option.toList_none, List.cons_append, List.nil_append, q21]))
    (try refine zS_one rfl ?_)
    refine r_callV (c_openedUp sc d ha hw htn) rfl rfl rfl rfl e (Nat.le_refl _) (Nat.le_refl _) ?_
    rintro r h' (⟨u, Z, rfl, -, ho, u1, u2, rfl, hw', hf'⟩ | ⟨rfl, rfl, hno⟩)
    · simp only [Option.toList_some, List.cons_append, List.nil_append, List.drop_succ_cons, List.drop_zero, Nat.reduceAdd]
      rw [opn_F] at ho
      refine tail u (inc I Θ) h' hw' hf' u2 (fun _ hk => ?_) (fun hk => ?_)
      · unfold rk; rw [if_neg q21, ho]; dsimp only; rw [if_pos hk]; rfl
      · unfold rk; rw [if_neg q21, ho]; dsimp only; rw [if_neg (hk.resolve_left (by omega))]
    · simp only [Option.toList_some, List.cons_append, List.nil_append, List.drop_succ_cons, List.drop_zero, Nat.reduceAdd]
      refine tail 0 I h' hw frA.rf (by omega) (fun z => absurd z (by omega)) (fun _ => ?_)
      have hno := hno.resolve_left (by omega)
      unfold rk
      rw [if_neg q21]
      split
      · next Z hZ => exact absurd (opn_F.mpr hZ) (hno Z)
      · rfl
end AG6
