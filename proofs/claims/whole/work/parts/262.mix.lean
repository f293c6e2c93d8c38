theorem i32_43 : (((4 : Int32) = 3)) = False := eq_false (by decide)
theorem i32_53 : (((5 : Int32) = 3)) = False := eq_false (by decide)
theorem i32_63 : (((6 : Int32) = 3)) = False := eq_false (by decide)
theorem i32_45 : (((4 : Int32) = 5)) = False := eq_false (by decide)
theorem i32_54 : (((5 : Int32) = 4)) = False := eq_false (by decide)
theorem i32_64 : (((6 : Int32) = 4)) = False := eq_false (by decide)
theorem i32_65 : (((6 : Int32) = 5)) = False := eq_false (by decide)
theorem i32_10 : (((1 : Int32) = 0)) = False := eq_false (by decide)
def dhT (x y : Int32) : zT := tDh x.toNatClampNeg y.toNatClampNeg
def mixX (tok : Int32) (I : Nat → Int32) : Int32 := if tok = 3 ∨ tok = (if I 1 = 0 then 5 else 4) then I 3 else I 2
def mixY (tok : Int32) (I : Nat → Int32) : Int32 := if tok = 3 ∨ tok = (if I 1 = 0 then 4 else 5) then I 5 else I 4
def mixΘ (tok : Int32) (I : Nat → Int32) (Θ : Nat → zT) : Nat → zT := va_up (va_up Θ 2 (nd 6 0 0 (Θ 1) (dhT (mixX tok I) (mixY tok I)) [])) 1 (nd 5 0 0 (Θ 1) (dhT (mixX tok I) (mixY tok I)) [])
def isMix (tok : Int32) : Prop := tok = 3 ∨ tok = 4 ∨ tok = 5 ∨ tok = 6
section AG3
variable {h0 : zH} {a n k m : Nat} {den : Nat → zT} {G : Nat → Int32} {ps : Nat → List zT} {I : Nat → Int32} {Θ : Nat → zT}
set_option maxHeartbeats 4000000 in
theorem c_mixKeys (sc : Nat × (Nat → Int32)) (d : Nat) (ha : 44 ≤ a) (hw : wld h0 a n k den G m ps I Θ) (hn : n + 3 < 720) {tok : Int32} (htok : isMix tok) : zMt zTab sc (d + 4) 13 [.ref a, .int tok] h0 0 0 (fun r h' => r = none ∧ ∃ n' den', wQ h0 a n den 3 k G m ps (va_up I 6 0) (mixΘ tok I Θ) h' n' den') := by
  have hw0 := hw
  obtain ⟨hT, hM, x, y, z, e, hx, hy, hz, hI⟩ := hw
  have e0 := e
  unfold aF at e
  refine zM_gen fun P hP => ?_
  refine zM_start (r := r_Ag_mixKeys) (cd := k_Ag_mixKeys) (L0 := [some (.ref a), some (.int tok), none, none, none]) rfl rfl rfl rfl rfl ?_
  have tail : ∀ (p q : Nat) (b2 b3 : Int32), p ≤ 20 → q ≤ 20 → dhT (mixX tok I) (mixY tok I) = tDh p q → i_callV 4 35 2 (zMt zTab sc (d + 3), (0, 0), sc) (88, [some (.ref a), some (.int tok), some (.int b2), some (.int b3), none], [.int (nI q), .int (nI p), .ref 1], h0, 0, 0) (zS (zMt zTab sc (d + 3), (0, 0), sc) k_Ag_mixKeys P) P := by
    intro p q b2 b3 hp hq hdd
    refine r_callV (c_dh sc d hT (by omega) hp hq) rfl rfl rfl rfl hT.o (Nat.le_refl _) (Nat.le_refl _) ?_
    rintro r h1 ⟨u, n1, den1, rfl, u1, u2, u3, hT1, g1, g2, g3, hf1⟩
    have hx1 : exq n den n1 den1 1 := ⟨g1, g2, g3⟩
    have hw1 := hw0.mk ha hT1 hx1 hf1 (by decide)
    have e1 : h1.1 a = _ := (hf1.1 a (by omega)).trans e
    have hy1 : 0 < y ∧ y ≤ n1 ∧ den1 y = Θ 1 := ⟨hy.1, by have := hy.2.1; omega, by rw [g3 y hy.1 hy.2.1]; exact hy.2.2⟩
    have hxx1 : 0 < x ∧ x ≤ n1 ∧ den1 x = Θ 0 := ⟨hx.1, by have := hx.2.1; omega, by rw [g3 x hx.1 hx.2.1]; exact hx.2.2⟩
    (repeat (refine zS_one rfl ?_; simp (disch := (first | decide | assumption | omega)) only [i_push, i_null, i_ild, i_ald, i_ist, i_ast, i_inc, i_bin, i_div, i_un, i_dup, i_pop, i_dup2, i_if, i_icmp, i_nul, i_nnl, i_goto, i_getf, i_putf, i_gets, i_nald, i_nast, i_aald, i_aast, i_alen, i_new, i_newa, i_newq, i_math, i_oini, i_iret, i_zret, i_aret, i_vret, z_fit, List.getElem?_cons_zero, List.getElem?_cons_succ, List.set_cons_zero, List.set_cons_succ, Nat.reduceAdd, Nat.reduceLT, Nat.reduceLeDiff, Nat.reduceEqDiff, Nat.zero_lt_succ, Value.category, true_and, or_true, true_or, and_true, false_implies, true_implies, not_false_eq_true, not_true_eq_false, List.map_cons, List.map_nil, List.sum_cons, List.sum_nil, va_up_eq, bx_uu, va_up_lit, List.length_cons, List.length_nil, List.drop_succ_cons, List.drop_zero, Option.toList_some, Option.toList_none, List.cons_append, List.nil_append, e1]))
    (try refine zS_one rfl ?_)
    refine r_callV (c_key sc d hT1 (by omega) hy1.1 hy1.2.1 u1 u2) rfl rfl rfl rfl hT1.o (Nat.le_refl _) (Nat.le_refl _) ?_
    rintro r h2 ⟨v, n2, den2, rfl, v1, v2, v3, hT2, g4, g5, g6, hf2⟩
    have hx2 : exq n1 den1 n2 den2 1 := ⟨g4, g5, g6⟩
    have e2 : h2.1 a = _ := (hf2.1 a (by omega)).trans e1
    have hM2 := (hw1.mk ha hT2 hx2 hf2 (by decide)).2.1
    (repeat (refine zS_one rfl ?_; simp (disch := (first | decide | assumption | omega)) only [i_push, i_null, i_ild, i_ald, i_ist, i_ast, i_inc, i_bin, i_div, i_un, i_dup, i_pop, i_dup2, i_if, i_icmp, i_nul, i_nnl, i_goto, i_getf, i_putf, i_gets, i_nald, i_nast, i_aald, i_aast, i_alen, i_new, i_newa, i_newq, i_math, i_oini, i_iret, i_zret, i_aret, i_vret, z_fit, List.getElem?_cons_zero, List.getElem?_cons_succ, List.set_cons_zero, List.set_cons_succ, Nat.reduceAdd, Nat.reduceLT, Nat.reduceLeDiff, Nat.reduceEqDiff, Nat.zero_lt_succ, Value.category, true_and, or_true, true_or, and_true, false_implies, true_implies, not_false_eq_true, not_true_eq_false, List.map_cons, List.map_nil, List.sum_cons, List.sum_nil, va_up_eq, bx_uu, va_up_lit, List.length_cons, List.length_nil, List.drop_succ_cons, List.drop_zero, Option.toList_some, Option.toList_none, List.cons_append, List.nil_append, e2]))
    (try refine zS_one rfl ?_)
    have hT2' : tOK (va_up h2.1 a (.inr (0, aF I x y v)), h2.2) n2 k den2 G := hT2.same (fun q hq => va_up_lit _ _ _ _ (by omega))
    have hM2' : mOK (va_up h2.1 a (.inr (0, aF I x y v)), h2.2) n2 den2 m ps := hM2.same (fun q hq => va_up_lit _ _ _ _ (by omega))
    have hy2 : 0 < y ∧ y ≤ n2 ∧ den2 y = Θ 1 := ⟨hy1.1, by have := hy1.2.1; omega, by rw [g6 y hy1.1 hy1.2.1]; exact hy1.2.2⟩
    have hxx2 : 0 < x ∧ x ≤ n2 ∧ den2 x = Θ 0 := ⟨hxx1.1, by have := hxx1.2.1; omega, by rw [g6 x hxx1.1 hxx1.2.1]; exact hxx1.2.2⟩
    refine r_callV (c_chain sc d (h0 := (va_up h2.1 a (.inr (0, aF I x y v)), h2.2)) hT2' (by omega) hy2.1 hy2.2.1 u1 (by omega)) rfl rfl rfl rfl hT2'.o (Nat.le_refl _) (Nat.le_refl _) ?_
    rintro r h3 ⟨w, n3, den3, rfl, w1, w2, w3, hT3, g7, g8, g9, hf3⟩
    have e3 : h3.1 a = .inr (0, aF I x y v) := (hf3.1 a (by omega)).trans (va_up_eq _ _ _)
    have hM3 := hM2'.fr (hi := 10) g7 g9 hf3 (by omega)
    unfold aF at e3
    (repeat (refine zS_one rfl ?_; simp (disch := (first | decide | assumption | omega)) only [i_push, i_null, i_ild, i_ald, i_ist, i_ast, i_inc, i_bin, i_div, i_un, i_dup, i_pop, i_dup2, i_if, i_icmp, i_nul, i_nnl, i_goto, i_getf, i_putf, i_gets, i_nald, i_nast, i_aald, i_aast, i_alen, i_new, i_newa, i_newq, i_math, i_oini, i_iret, i_zret, i_aret, i_vret, z_fit, List.getElem?_cons_zero, List.getElem?_cons_succ, List.set_cons_zero, List.set_cons_succ, Nat.reduceAdd, Nat.reduceLT, Nat.reduceLeDiff, Nat.reduceEqDiff, Nat.zero_lt_succ, Value.category, true_and, or_true, true_or, and_true, false_implies, true_implies, not_false_eq_true, not_true_eq_false, List.map_cons, List.map_nil, List.sum_cons, List.sum_nil, va_up_eq, bx_uu, va_up_lit, List.length_cons, List.length_nil, List.drop_succ_cons, List.drop_zero, Option.toList_some, Option.toList_none, List.cons_append, List.nil_append, e3]))
    have hx3 : exq n2 den2 n3 den3 1 := ⟨g7, g8, g9⟩
    have hv3 : den3 v = nd 6 0 0 (Θ 1) (dhT (mixX tok I) (mixY tok I)) [] := by
      rw [g9 v v1 v2, v3, hy1.2.2, u3, hdd]
    have hw3 : den3 w = nd 5 0 0 (Θ 1) (dhT (mixX tok I) (mixY tok I)) [] := by
      rw [w3, hy2.2.2, g6 u u1 u2, u3, hdd]
    refine hP _ _ ⟨rfl, n3, den3, ((hx1.tr hx2).tr hx3), wld_set (I := va_up I 6 0) (Θ := mixΘ tok I Θ) ha hT3 hM3 (x := x) (y := w) (z := v) ⟨hxx2.1, by have := hxx2.2.1; omega, by rw [g9 x hxx2.1 hxx2.2.1]; exact hxx2.2.2⟩ ⟨w1, w2, hw3⟩ (Or.inr ⟨v1, by omega, hv3, nd_ne⟩) hI, ?_⟩
    exact (((hf1.A (by decide) (by decide)).tr (hf2.A (by decide) (by decide))).tr frA_set).tr ((hf3.A (by decide) (by decide)).tr frA_set)
  have hI0 := hI
  obtain ⟨-, hI1, ⟨p2, hp2, e2⟩, ⟨p3, hp3, e3⟩, ⟨p4, hp4, e4⟩, ⟨p5, hp5, e5⟩, -⟩ := hI
  have c2 : (nI p2).toNatClampNeg = p2 := nI_clamp (by omega)
  have c3 : (nI p3).toNatClampNeg = p3 := nI_clamp (by omega)
  have c4 : (nI p4).toNatClampNeg = p4 := nI_clamp (by omega)
  have c5 : (nI p5).toNatClampNeg = p5 := nI_clamp (by omega)
  rcases htok with rfl | rfl | rfl | rfl <;> rcases hI1 with hi | hi
  all_goals
    (repeat (refine zS_one rfl ?_; simp (disch := (first | decide | assumption | omega)) only [i_push, i_null, i_ild, i_ald, i_ist, i_ast, i_inc, i_bin, i_div, i_un, i_dup, i_pop, i_dup2, i_if, i_icmp, i_nul, i_nnl, i_goto, i_getf, i_putf, i_gets, i_nald, i_nast, i_aald, i_aast, i_alen, i_new, i_newa, i_newq, i_math, i_oini, i_iret, i_zret, i_aret, i_vret, z_fit, List.getElem?_cons_zero, List.getElem?_cons_succ, List.set_cons_zero, List.set_cons_succ, Nat.reduceAdd, Nat.reduceLT, Nat.reduceLeDiff, Nat.reduceEqDiff, Nat.zero_lt_succ, Value.category, true_and, or_true, true_or, and_true, false_implies, true_implies, not_false_eq_true, not_true_eq_false, List.map_cons, List.map_nil, List.sum_cons, List.sum_nil, va_up_eq, bx_uu, va_up_lit, List.length_cons, List.length_nil, List.drop_succ_cons, List.drop_zero, Option.toList_some, Option.toList_none, List.cons_append, List.nil_append, e, hi, i32_43, i32_53, i32_63, i32_45, i32_54, i32_64, i32_65, i32_10, e2, e3, e4, e5]))
    refine tail _ _ _ _ (by assumption) (by assumption) ?_
    unfold mixX mixY
    rw [hi]
    unfold dhT
    simp only [i32_43, i32_53, i32_63, i32_45, i32_54, i32_64, i32_65, i32_10, or_false, false_or, or_true, true_or, if_true, if_false, reduceIte, e2, e3, e4, e5, c2, c3, c4, c5]
end AG3
