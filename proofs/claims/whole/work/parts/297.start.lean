def stI (p i own oth : Int32) : Nat → Int32 := fun q => if q = 13 then -1 else bgI p i own oth q
theorem st8 {x : Int32} (h1 : ¬ x < 1) (h2 : ¬ 8 < x) : ∃ p, 1 ≤ p ∧ p ≤ 8 ∧ x = nI p := by
  have h0 : ¬ x < 0 := by
    intro z
    apply h1
    simp only [Int32.lt_iff_toInt_lt] at z ⊢
    have e0 : (0 : Int32).toInt = 0 := by decide
    have e1 : (1 : Int32).toInt = 1 := by decide
    rw [e0] at z
    rw [e1]
    omega
  obtain ⟨j, hj, rfl⟩ := nI_of h0
  refine ⟨j, ?_, ?_, rfl⟩
  · by_cases hz : j = 0
    · subst hz
      exact absurd (by decide) h1
    · omega
  · by_cases hz : j ≤ 8
    · exact hz
    · have e8 : (8 : Int32) = nI 8 := by decide
      rw [e8] at h2
      exact absurd (k2_le h2) (nI_ge (by omega) hj)
theorem tOK.sm {h h' : zH} {n k : Nat} {den : Nat → zT} {G : Nat → Int32} (hO : tOK h n k den G) (hf : ∀ q, 1 ≤ q → q ≤ 10 → h'.1 q = h.1 q) : tOK h' n k den G := by
  obtain ⟨T, ⟨q1, q2, q3, q4, q5, q6, q7, q8, q9, q10⟩, hI⟩ := hO
  exact ⟨T, ⟨(hf _ (by omega) (by omega)).trans q1, (hf _ (by omega) (by omega)).trans q2, (hf _ (by omega) (by omega)).trans q3, (hf _ (by omega) (by omega)).trans q4, (hf _ (by omega) (by omega)).trans q5, (hf _ (by omega) (by omega)).trans q6, (hf _ (by omega) (by omega)).trans q7, (hf _ (by omega) (by omega)).trans q8, (hf _ (by omega) (by omega)).trans q9, (hf _ (by omega) (by omega)).trans q10⟩, hI⟩
section ST7
variable {h0 : zH} {ns n k m : Nat} {den : Nat → zT} {G : Nat → Int32} {ps : Nat → List zT} {V : Nat → zV}
set_option maxHeartbeats 4000000 in
theorem start_core {f : Nat → va_E} (sc : Nat × (Nat → Int32)) (d : Nat) (hC : cOK (f, 44 + 5 * ns) ns n k den G m ps V) (hn : n + 5 < 720) {p i own oth prol ko : Int32} (hp : p = 0 ∨ p = 1) (hi : i = 0 ∨ i = 1) (ho : key20 own) (ht : key20 (if ko = 0 then 0 else oth)) {P : zP}
    (hP : ∀ r h', ((r = some (.int (-4)) ∧ h' = (f, 44 + 5 * ns) ∧ ns = 12) ∨ (r = some (.int (nI ns)) ∧ ns < 12 ∧ frM (f, 44 + 5 * ns) h' ∧ ∃ n' den', exq n den n' den' 5 ∧ cOK h' (ns + 1) n' k den' G m ps (va_up V ns (stI p i own (if ko = 0 then 0 else oth), bgΘ p i own (if ko = 0 then 0 else oth) prol, fun _ => 0)))) → P r h') (x : Option Value) :
    zS (zMt zTab sc (d + 5), (5, 98), sc) k_St_start P (49, [some (.ref 0), some (.int p), some (.int i), some (.int own), some (.int oth), some (.int prol), some (.int ko), x], [], (f, 44 + 5 * ns), 0, 0) := by
  have e0 : f 0 = _ := hC.1
  have h12 := hC.2.1
  have c12 : (12 : Int32) = nI 12 := by decide
  by_cases hs : ns = 12
  · have w : ¬ nI ns < 12 := by rw [hs]; decide
    (repeat (refine zS_one rfl ?_; simp (disch := (first | decide | assumption | omega)) only [i_push, i_null, i_ild, i_ald, i_ist, i_ast, i_inc, i_bin, i_div, i_un, i_dup, i_pop, i_dup2, i_if, i_icmp, i_nul, i_nnl, i_goto, i_getf, i_putf, i_gets, i_nald, i_nast, i_aald, i_aast, i_alen, i_new, i_newa, i_newq, i_math, i_oini, i_iret, i_zret, i_aret, i_vret, z_fit, List.getElem?_cons_zero, List.getElem?_cons_succ, List.set_cons_zero, List.set_cons_succ, Nat.reduceAdd, Nat.reduceLT, Nat.reduceLeDiff, Nat.reduceEqDiff, Nat.zero_lt_succ, Value.category, true_and, or_true, true_or, and_true, false_implies, true_implies, not_false_eq_true, not_true_eq_false, List.map_cons, List.map_nil, List.sum_cons, List.sum_nil, va_up_eq, bx_uu, va_up_lit, List.length_cons, List.length_nil, List.drop_succ_cons, List.drop_zero, Option.toList_some, Option.toList_none, List.cons_append, List.nil_append, e0, w]))
    exact hP _ _ (Or.inl ⟨rfl, rfl, hs⟩)
  have w : nI ns < 12 := by
    have : ns < 12 := by omega
    rcases (show ns = 0 ∨ ns = 1 ∨ ns = 2 ∨ ns = 3 ∨ ns = 4 ∨ ns = 5 ∨ ns = 6 ∨ ns = 7 ∨ ns = 8 ∨ ns = 9 ∨ ns = 10 ∨ ns = 11 by omega) with h | h | h | h | h | h | h | h | h | h | h | h <;> rw [h] <;> decide
  generalize hoth : (if ko = 0 then 0 else oth) = oth' at *
  generalize hb : 44 + 5 * ns = b at *
  have hb0 : 44 ≤ b := by omega
  (repeat (refine zS_one rfl ?_; simp (disch := (first | decide | assumption | omega)) only [i_push, i_null, i_ild, i_ald, i_ist, i_ast, i_inc, i_bin, i_div, i_un, i_dup, i_pop, i_dup2, i_if, i_icmp, i_nul, i_nnl, i_goto, i_getf, i_putf, i_gets, i_nald, i_nast, i_aald, i_aast, i_alen, i_new, i_newa, i_newq, i_math, i_oini, i_iret, i_zret, i_aret, i_vret, z_fit, List.getElem?_cons_zero, List.getElem?_cons_succ, List.set_cons_zero, List.set_cons_succ, Nat.reduceAdd, Nat.reduceLT, Nat.reduceLeDiff, Nat.reduceEqDiff, Nat.zero_lt_succ, Value.category, true_and, or_true, true_or, and_true, false_implies, true_implies, not_false_eq_true, not_true_eq_false, List.map_cons, List.map_nil, List.sum_cons, List.sum_nil, va_up_eq, bx_uu, va_up_lit, List.length_cons, List.length_nil, List.drop_succ_cons, List.drop_zero, Option.toList_some, Option.toList_none, List.cons_append, List.nil_append, e0, w]))
  (try refine zS_one rfl ?_)
  refine r_callI (c_Seinit sc (d + 3) b (va_up_eq _ _ _)) rfl rfl rfl rfl (by decide) (by decide) ?_
  rintro r h1 ⟨rfl, g0, g1, g2, g3, g4, g5, g6⟩
  have g6 : ∀ q, q < b → h1.1 q = f q := fun q hq => (g6 q hq).trans (va_up_lit _ _ _ _ (by omega))
  have hT1 : tOK h1 n k den G := hC.2.2.2.1.sm (fun q _ _ => g6 q (by omega))
  have hM1 : mOK h1 n den m ps := hC.2.2.2.2.1.same (fun q _ => g6 q (by omega))
  have e01 := (g6 0 (by omega)).trans e0
  have tail : zS (zMt zTab sc (d + 5), (5, 98), sc) k_St_start P (93, [some (.ref 0), some (.int p), some (.int i), some (.int own), some (.int oth), some (.int prol), some (.int ko), some (.ref b)], [.int oth', .int own, .int i, .int p, .ref (b + 3)], h1, 5, 98) := by
    (repeat (refine zS_one rfl ?_; simp (disch := (first | decide | assumption | omega)) only [i_push, i_null, i_ild, i_ald, i_ist, i_ast, i_inc, i_bin, i_div, i_un, i_dup, i_pop, i_dup2, i_if, i_icmp, i_nul, i_nnl, i_goto, i_getf, i_putf, i_gets, i_nald, i_nast, i_aald, i_aast, i_alen, i_new, i_newa, i_newq, i_math, i_oini, i_iret, i_zret, i_aret, i_vret, z_fit, List.getElem?_cons_zero, List.getElem?_cons_succ, List.set_cons_zero, List.set_cons_succ, Nat.reduceAdd, Nat.reduceLT, Nat.reduceLeDiff, Nat.reduceEqDiff, Nat.zero_lt_succ, Value.category, true_and, or_true, true_or, and_true, false_implies, true_implies, not_false_eq_true, not_true_eq_false, List.map_cons, List.map_nil, List.sum_cons, List.sum_nil, va_up_eq, bx_uu, va_up_lit, List.length_cons, List.length_nil, List.drop_succ_cons, List.drop_zero, Option.toList_some, Option.toList_none, List.cons_append, List.nil_append]))
    (try refine zS_one rfl ?_)
    refine r_callV (c_begin sc (d + 1) (a := b + 3) (prol := prol) (by omega) hT1 hM1 hn g4 hp hi ho ht) rfl rfl rfl rfl g4 (by decide) (by decide) ?_
    rintro r h2 ⟨rfl, n', den', hx, ⟨hT2, hM2, hA2⟩, hf⟩
    have j6 : ∀ q, ¬ (1 ≤ q ∧ q ≤ 13) → q ≠ b + 3 → h2.1 q = h1.1 q := hf.1
    have e02 := (j6 0 (by omega) (by omega)).trans e01
    obtain ⟨F, e14, hF⟩ := hC.2.2.1
    have e14' := (j6 14 (by omega) (by omega)).trans ((g6 14 (by omega)).trans e14)
    have eb := (j6 b (by omega) (by omega)).trans g1
    have w3 : vp_in (nI ns) 12 := vp_in_nI (by omega) (by decide)
    have w4 : (nI ns).toNatClampNeg = ns := nI_clamp (by omega)
    have w5 : nI (ns + 1) - 1 = nI ns := by rw [← nI_1 ns]; exact Int32.add_sub_cancel _ _
    (repeat (refine zS_one rfl ?_; simp (disch := (first | decide | assumption | omega)) only [i_push, i_null, i_ild, i_ald, i_ist, i_ast, i_inc, i_bin, i_div, i_un, i_dup, i_pop, i_dup2, i_if, i_icmp, i_nul, i_nnl, i_goto, i_getf, i_putf, i_gets, i_nald, i_nast, i_aald, i_aast, i_alen, i_new, i_newa, i_newq, i_math, i_oini, i_iret, i_zret, i_aret, i_vret, z_fit, List.getElem?_cons_zero, List.getElem?_cons_succ, List.set_cons_zero, List.set_cons_succ, Nat.reduceAdd, Nat.reduceLT, Nat.reduceLeDiff, Nat.reduceEqDiff, Nat.zero_lt_succ, Value.category, true_and, or_true, true_or, and_true, false_implies, true_implies, not_false_eq_true, not_true_eq_false, List.map_cons, List.map_nil, List.sum_cons, List.sum_nil, va_up_eq, bx_uu, va_up_lit, List.length_cons, List.length_nil, List.drop_succ_cons, List.drop_zero, Option.toList_some, Option.toList_none, List.cons_append, List.nil_append, e02, e14', eb, w3, w4, nI_1', w5]))
    generalize hh3 : (va_up (va_up h2.1 14 _) 0 _, h2.2) = h3
    have k0 : h3.1 0 = .inr (5, [.ref 1, .ref 11, .ref 14, .int (nI (ns + 1))]) := by rw [← hh3]; simp only [va_up_eq]
    have k14 : h3.1 14 = .inl (4, 12, .inr (.inr (.inr (.inr (va_up F ns (some b)))))) := by rw [← hh3]; simp (disch := decide) only [va_up_eq, va_up_lit]
    have kq : ∀ q, q ≠ 0 → q ≠ 14 → h3.1 q = h2.1 q := fun q z1 z2 => by rw [← hh3]; exact (va_up_lit _ _ _ _ z1).trans (va_up_lit _ _ _ _ z2)
    have ksz : h3.2 = b + 5 := by rw [← hh3]; exact hf.2.trans g0
    refine hP _ _ (Or.inr ⟨rfl, by omega, fun q z1 z2 => ?_, n', den', hx, ?_⟩)
    · rw [kq q (by omega) (by omega), j6 q (by omega) (by omega)]
      exact g6 q (by omega)
    · refine ⟨k0, by omega, ⟨va_up F ns (some b), k14, fun s hs' => ?_⟩, hT2.sm (fun q _ _ => kq q (by omega) (by omega)), hM2.ext (Nat.le_refl _) (fun _ _ _ => rfl) (kq 11 (by decide) (by decide)) (kq 12 (by decide) (by decide)) (kq 13 (by decide) (by decide)), fun s hs' => ?_, by rw [ksz]; omega⟩
      · by_cases z : s = ns
        · subst z
          rw [va_up_eq, hb]
        · rw [va_up_lit _ _ _ _ z]
          exact hF s (by omega)
      · by_cases z : s = ns
        · subst z
          rw [va_up_eq, hb]
          obtain ⟨x1, y1, z1, ea, hx1, hy1, hz1, hI1⟩ := hA2
          refine ⟨(kq b (by omega) (by omega)).trans eb, ⟨0, 0, (kq _ (by omega) (by omega)).trans ((j6 _ (by omega) (by omega)).trans g2), fun z => absurd ?_ z⟩, (kq _ (by omega) (by omega)).trans ((j6 _ (by omega) (by omega)).trans g3), ⟨x1, y1, z1, (kq _ (by omega) (by omega)).trans ea, hx1, hy1, hz1, hI1⟩, ⟨fun _ => 0, Or.inl rfl, (kq _ (by omega) (by omega)).trans ((j6 _ (by omega) (by omega)).trans g5)⟩, Or.inl rfl⟩
          show (0 : Int32) < lim _
          rcases lim2 (stI p i own oth') with e | e <;> rw [e] <;> decide
        · rw [va_up_lit _ _ _ _ z]
          refine sOK.ext (hC.2.2.2.2.2.1 s (by omega)) hx (fun q z1 z2 => ?_)
          rw [kq q (by omega) (by omega), j6 q (by omega) (by omega)]
          exact g6 q (by omega)
  by_cases hko : ko = 0
  · have : oth' = 0 := by rw [← hoth, if_pos hko]
    rw [this] at tail
    (iterate 9 (refine zS_one rfl ?_; simp (disch := (first | decide | assumption | omega)) only [i_push, i_null, i_ild, i_ald, i_ist, i_ast, i_inc, i_bin, i_div, i_un, i_dup, i_pop, i_dup2, i_if, i_icmp, i_nul, i_nnl, i_goto, i_getf, i_putf, i_gets, i_nald, i_nast, i_aald, i_aast, i_alen, i_new, i_newa, i_newq, i_math, i_oini, i_iret, i_zret, i_aret, i_vret, z_fit, List.getElem?_cons_zero, List.getElem?_cons_succ, List.set_cons_zero, List.set_cons_succ, Nat.reduceAdd, Nat.reduceLT, Nat.reduceLeDiff, Nat.reduceEqDiff, Nat.zero_lt_succ, Value.category, true_and, or_true, true_or, and_true, false_implies, true_implies, not_false_eq_true, not_true_eq_false, List.map_cons, List.map_nil, List.sum_cons, List.sum_nil, va_up_eq, bx_uu, va_up_lit, List.length_cons, List.length_nil, List.drop_succ_cons, List.drop_zero, Option.toList_some, Option.toList_none, List.cons_append, List.nil_append, g1, hko, e01]))
    rw [hko] at tail
    exact tail
  · have : oth' = oth := by rw [← hoth, if_neg hko]
    rw [this] at tail
    (iterate 10 (refine zS_one rfl ?_; simp (disch := (first | decide | assumption | omega)) only [i_push, i_null, i_ild, i_ald, i_ist, i_ast, i_inc, i_bin, i_div, i_un, i_dup, i_pop, i_dup2, i_if, i_icmp, i_nul, i_nnl, i_goto, i_getf, i_putf, i_gets, i_nald, i_nast, i_aald, i_aast, i_alen, i_new, i_newa, i_newq, i_math, i_oini, i_iret, i_zret, i_aret, i_vret, z_fit, List.getElem?_cons_zero, List.getElem?_cons_succ, List.set_cons_zero, List.set_cons_succ, Nat.reduceAdd, Nat.reduceLT, Nat.reduceLeDiff, Nat.reduceEqDiff, Nat.zero_lt_succ, Value.category, true_and, or_true, true_or, and_true, false_implies, true_implies, not_false_eq_true, not_true_eq_false, List.map_cons, List.map_nil, List.sum_cons, List.sum_nil, va_up_eq, bx_uu, va_up_lit, List.length_cons, List.length_nil, List.drop_succ_cons, List.drop_zero, Option.toList_some, Option.toList_none, List.cons_append, List.nil_append, g1, hko, e01]))
    exact tail
def stOK (p i own oth : Int32) : Prop := (p = 0 ∨ p = 1) ∧ (¬ own < 1 ∧ ¬ 8 < own) ∧ (p = 1 ∧ ¬ i = 0 → ¬ oth < 1 ∧ ¬ 8 < oth)
def stO (p i oth : Int32) : Int32 := if p = 1 ∧ ¬ i = 0 then oth else 0
set_option maxHeartbeats 4000000 in
theorem c_Ststart (sc : Nat × (Nat → Int32)) (d : Nat) (hC : cOK h0 ns n k den G m ps V) (hn : n + 5 < 720) {p i own oth prol : Int32} (hi : i = 0 ∨ i = 1) : zMt zTab sc (d + 6) 57 [.ref 0, .int p, .int i, .int own, .int oth, .int prol] h0 5 98 (fun r h' => (r = some (.int (-1)) ∧ h' = h0 ∧ ¬ stOK p i own oth) ∨ (stOK p i own oth ∧ ((r = some (.int (-4)) ∧ h' = h0 ∧ ns = 12) ∨ (r = some (.int (nI ns)) ∧ ns < 12 ∧ frM h0 h' ∧ ∃ n' den', exq n den n' den' 5 ∧ cOK h' (ns + 1) n' k den' G m ps (va_up V ns (stI p i own (stO p i oth), bgΘ p i own (stO p i oth) prol, fun _ => 0)))))) := by
  obtain ⟨f, N⟩ := h0
  have hN : N = 44 + 5 * ns := hC.2.2.2.2.2.2
  subst hN
  have q10 : ¬ (1 : Int32) = 0 := by decide
  have q01 : ¬ (0 : Int32) = 1 := by decide
  refine zM_gen fun P hP => ?_
  refine zM_start (r := r_St_start) (cd := k_St_start) (L0 := [some (.ref 0), some (.int p), some (.int i), some (.int own), some (.int oth), some (.int prol), none, none]) rfl rfl rfl rfl rfl ?_
  have core : ∀ ko : Int32, stOK p i own oth → (ko = 0 ∧ ¬ (p = 1 ∧ ¬ i = 0) ∨ ko = 1 ∧ (p = 1 ∧ ¬ i = 0)) → zS (zMt zTab sc (d + 5), (5, 98), sc) k_St_start P (49, [some (.ref 0), some (.int p), some (.int i), some (.int own), some (.int oth), some (.int prol), some (.int ko), none], [], (f, 44 + 5 * ns), 0, 0) := by
    intro ko hst hko
    have hto : (if ko = 0 then 0 else oth) = stO p i oth := by
      unfold stO
      rcases hko with ⟨rfl, h⟩ | ⟨rfl, h⟩
      · rw [if_pos rfl, if_neg h]
      · rw [if_neg q10, if_pos h]
    have ho : key20 own := by
      obtain ⟨j, -, hj, e⟩ := st8 hst.2.1.1 hst.2.1.2
      exact ⟨j, by omega, e⟩
    have ht : key20 (if ko = 0 then 0 else oth) := by
      rcases hko with ⟨rfl, h⟩ | ⟨rfl, h⟩
      · exact ⟨0, by decide, rfl⟩
      · obtain ⟨j, -, hj, e⟩ := st8 (hst.2.2 h).1 (hst.2.2 h).2
        exact ⟨j, by omega, e⟩
    refine start_core sc d hC hn hst.1 hi ho ht (fun r h' hr => hP r h' (Or.inr ⟨hst, ?_⟩)) none
    rw [hto] at hr
    exact hr
  have mid : ∀ ko : Int32, (p = 0 ∨ p = 1) → (ko = 0 ∧ ¬ (p = 1 ∧ ¬ i = 0) ∨ ko = 1 ∧ (p = 1 ∧ ¬ i = 0)) → zS (zMt zTab sc (d + 5), (5, 98), sc) k_St_start P (27, [some (.ref 0), some (.int p), some (.int i), some (.int own), some (.int oth), some (.int prol), some (.int ko), none], [], (f, 44 + 5 * ns), 0, 0) := by
    intro ko hp hko
    (repeat (refine zS_one rfl ?_; simp (disch := (first | decide | assumption | omega)) only [i_push, i_null, i_ild, i_ald, i_ist, i_ast, i_inc, i_bin, i_div, i_un, i_dup, i_pop, i_dup2, i_if, i_icmp, i_nul, i_nnl, i_goto, i_getf, i_putf, i_gets, i_nald, i_nast, i_aald, i_aast, i_alen, i_new, i_newa, i_newq, i_math, i_oini, i_iret, i_zret, i_aret, i_vret, z_fit, List.getElem?_cons_zero, List.getElem?_cons_succ, List.set_cons_zero, List.set_cons_succ, Nat.reduceAdd, Nat.reduceLT, Nat.reduceLeDiff, Nat.reduceEqDiff, Nat.zero_lt_succ, Value.category, true_and, or_true, true_or, and_true, false_implies, true_implies, not_false_eq_true, not_true_eq_false, List.map_cons, List.map_nil, List.sum_cons, List.sum_nil, va_up_eq, bx_uu, va_up_lit, List.length_cons, List.length_nil, List.drop_succ_cons, List.drop_zero, Option.toList_some, Option.toList_none, List.cons_append, List.nil_append]))
    (try refine zS_one rfl ?_)
    refine r_callS (c_isStaticKey sc (d + 4) _ own) rfl rfl rfl rfl (by decide) (by decide) ?_
    rintro r h' ⟨rfl, ⟨rfl, ho⟩ | ⟨rfl, ho⟩⟩
    rotate_left
    · (repeat (refine zS_one rfl ?_; simp (disch := (first | decide | assumption | omega)) only [i_push, i_null, i_ild, i_ald, i_ist, i_ast, i_inc, i_bin, i_div, i_un, i_dup, i_pop, i_dup2, i_if, i_icmp, i_nul, i_nnl, i_goto, i_getf, i_putf, i_gets, i_nald, i_nast, i_aald, i_aast, i_alen, i_new, i_newa, i_newq, i_math, i_oini, i_iret, i_zret, i_aret, i_vret, z_fit, List.getElem?_cons_zero, List.getElem?_cons_succ, List.set_cons_zero, List.set_cons_succ, Nat.reduceAdd, Nat.reduceLT, Nat.reduceLeDiff, Nat.reduceEqDiff, Nat.zero_lt_succ, Value.category, true_and, or_true, true_or, and_true, false_implies, true_implies, not_false_eq_true, not_true_eq_false, List.map_cons, List.map_nil, List.sum_cons, List.sum_nil, va_up_eq, bx_uu, va_up_lit, List.length_cons, List.length_nil, List.drop_succ_cons, List.drop_zero, Option.toList_some, Option.toList_none, List.cons_append, List.nil_append]))
      exact hP _ _ (Or.inl ⟨rfl, rfl, fun z => by rcases ho with ho | ho; exact z.2.1.1 ho; exact z.2.1.2 ho⟩)
    rcases hko with ⟨rfl, h⟩ | ⟨rfl, h⟩
    · have := core 0 ⟨hp, ho, fun z => absurd z h⟩ (Or.inl ⟨rfl, h⟩)
      (iterate 3 (refine zS_one rfl ?_; simp (disch := (first | decide | assumption | omega)) only [i_push, i_null, i_ild, i_ald, i_ist, i_ast, i_inc, i_bin, i_div, i_un, i_dup, i_pop, i_dup2, i_if, i_icmp, i_nul, i_nnl, i_goto, i_getf, i_putf, i_gets, i_nald, i_nast, i_aald, i_aast, i_alen, i_new, i_newa, i_newq, i_math, i_oini, i_iret, i_zret, i_aret, i_vret, z_fit, List.getElem?_cons_zero, List.getElem?_cons_succ, List.set_cons_zero, List.set_cons_succ, Nat.reduceAdd, Nat.reduceLT, Nat.reduceLeDiff, Nat.reduceEqDiff, Nat.zero_lt_succ, Value.category, true_and, or_true, true_or, and_true, false_implies, true_implies, not_false_eq_true, not_true_eq_false, List.map_cons, List.map_nil, List.sum_cons, List.sum_nil, va_up_eq, bx_uu, va_up_lit, List.length_cons, List.length_nil, List.drop_succ_cons, List.drop_zero, Option.toList_some, Option.toList_none, List.cons_append, List.nil_append, q10]))
      exact this
    · (repeat (refine zS_one rfl ?_; simp (disch := (first | decide | assumption | omega)) only [i_push, i_null, i_ild, i_ald, i_ist, i_ast, i_inc, i_bin, i_div, i_un, i_dup, i_pop, i_dup2, i_if, i_icmp, i_nul, i_nnl, i_goto, i_getf, i_putf, i_gets, i_nald, i_nast, i_aald, i_aast, i_alen, i_new, i_newa, i_newq, i_math, i_oini, i_iret, i_zret, i_aret, i_vret, z_fit, List.getElem?_cons_zero, List.getElem?_cons_succ, List.set_cons_zero, List.set_cons_succ, Nat.reduceAdd, Nat.reduceLT, Nat.reduceLeDiff, Nat.reduceEqDiff, Nat.zero_lt_succ, Value.category, true_and, or_true, true_or, and_true, false_implies, true_implies, not_false_eq_true, not_true_eq_false, List.map_cons, List.map_nil, List.sum_cons, List.sum_nil, va_up_eq, bx_uu, va_up_lit, List.length_cons, List.length_nil, List.drop_succ_cons, List.drop_zero, Option.toList_some, Option.toList_none, List.cons_append, List.nil_append, q10]))
      (try refine zS_one rfl ?_)
      refine r_callS (c_isStaticKey sc (d + 4) _ oth) rfl rfl rfl rfl (by decide) (by decide) ?_
      rintro r h' ⟨rfl, ⟨rfl, ht⟩ | ⟨rfl, ht⟩⟩
      rotate_left
      · (repeat (refine zS_one rfl ?_; simp (disch := (first | decide | assumption | omega)) only [i_push, i_null, i_ild, i_ald, i_ist, i_ast, i_inc, i_bin, i_div, i_un, i_dup, i_pop, i_dup2, i_if, i_icmp, i_nul, i_nnl, i_goto, i_getf, i_putf, i_gets, i_nald, i_nast, i_aald, i_aast, i_alen, i_new, i_newa, i_newq, i_math, i_oini, i_iret, i_zret, i_aret, i_vret, z_fit, List.getElem?_cons_zero, List.getElem?_cons_succ, List.set_cons_zero, List.set_cons_succ, Nat.reduceAdd, Nat.reduceLT, Nat.reduceLeDiff, Nat.reduceEqDiff, Nat.zero_lt_succ, Value.category, true_and, or_true, true_or, and_true, false_implies, true_implies, not_false_eq_true, not_true_eq_false, List.map_cons, List.map_nil, List.sum_cons, List.sum_nil, va_up_eq, bx_uu, va_up_lit, List.length_cons, List.length_nil, List.drop_succ_cons, List.drop_zero, Option.toList_some, Option.toList_none, List.cons_append, List.nil_append]))
        exact hP _ _ (Or.inl ⟨rfl, rfl, fun z => by rcases ht with ht | ht; exact (z.2.2 h).1 ht; exact (z.2.2 h).2 ht⟩)
      · have := core 1 ⟨hp, ho, fun _ => ht⟩ (Or.inr ⟨rfl, h⟩)
        (iterate 1 (refine zS_one rfl ?_; simp (disch := (first | decide | assumption | omega)) only [i_push, i_null, i_ild, i_ald, i_ist, i_ast, i_inc, i_bin, i_div, i_un, i_dup, i_pop, i_dup2, i_if, i_icmp, i_nul, i_nnl, i_goto, i_getf, i_putf, i_gets, i_nald, i_nast, i_aald, i_aast, i_alen, i_new, i_newa, i_newq, i_math, i_oini, i_iret, i_zret, i_aret, i_vret, z_fit, List.getElem?_cons_zero, List.getElem?_cons_succ, List.set_cons_zero, List.set_cons_succ, Nat.reduceAdd, Nat.reduceLT, Nat.reduceLeDiff, Nat.reduceEqDiff, Nat.zero_lt_succ, Value.category, true_and, or_true, true_or, and_true, false_implies, true_implies, not_false_eq_true, not_true_eq_false, List.map_cons, List.map_nil, List.sum_cons, List.sum_nil, va_up_eq, bx_uu, va_up_lit, List.length_cons, List.length_nil, List.drop_succ_cons, List.drop_zero, Option.toList_some, Option.toList_none, List.cons_append, List.nil_append, q10]))
        exact this
  by_cases hp1 : p = 1
  · subst hp1
    rcases hi with rfl | rfl
    · have := mid 0 (Or.inr rfl) (Or.inl ⟨rfl, fun z => z.2 rfl⟩)
      (iterate 12 (refine zS_one rfl ?_; simp (disch := (first | decide | assumption | omega)) only [i_push, i_null, i_ild, i_ald, i_ist, i_ast, i_inc, i_bin, i_div, i_un, i_dup, i_pop, i_dup2, i_if, i_icmp, i_nul, i_nnl, i_goto, i_getf, i_putf, i_gets, i_nald, i_nast, i_aald, i_aast, i_alen, i_new, i_newa, i_newq, i_math, i_oini, i_iret, i_zret, i_aret, i_vret, z_fit, List.getElem?_cons_zero, List.getElem?_cons_succ, List.set_cons_zero, List.set_cons_succ, Nat.reduceAdd, Nat.reduceLT, Nat.reduceLeDiff, Nat.reduceEqDiff, Nat.zero_lt_succ, Value.category, true_and, or_true, true_or, and_true, false_implies, true_implies, not_false_eq_true, not_true_eq_false, List.map_cons, List.map_nil, List.sum_cons, List.sum_nil, va_up_eq, bx_uu, va_up_lit, List.length_cons, List.length_nil, List.drop_succ_cons, List.drop_zero, Option.toList_some, Option.toList_none, List.cons_append, List.nil_append, q10]))
      exact this
    · have := mid 1 (Or.inr rfl) (Or.inr ⟨rfl, rfl, q10⟩)
      (iterate 13 (refine zS_one rfl ?_; simp (disch := (first | decide | assumption | omega)) only [i_push, i_null, i_ild, i_ald, i_ist, i_ast, i_inc, i_bin, i_div, i_un, i_dup, i_pop, i_dup2, i_if, i_icmp, i_nul, i_nnl, i_goto, i_getf, i_putf, i_gets, i_nald, i_nast, i_aald, i_aast, i_alen, i_new, i_newa, i_newq, i_math, i_oini, i_iret, i_zret, i_aret, i_vret, z_fit, List.getElem?_cons_zero, List.getElem?_cons_succ, List.set_cons_zero, List.set_cons_succ, Nat.reduceAdd, Nat.reduceLT, Nat.reduceLeDiff, Nat.reduceEqDiff, Nat.zero_lt_succ, Value.category, true_and, or_true, true_or, and_true, false_implies, true_implies, not_false_eq_true, not_true_eq_false, List.map_cons, List.map_nil, List.sum_cons, List.sum_nil, va_up_eq, bx_uu, va_up_lit, List.length_cons, List.length_nil, List.drop_succ_cons, List.drop_zero, Option.toList_some, Option.toList_none, List.cons_append, List.nil_append, q10]))
      exact this
  · by_cases hp0 : p = 0
    · subst hp0
      have := mid 0 (Or.inl rfl) (Or.inl ⟨rfl, fun z => q01 z.1⟩)
      (iterate 7 (refine zS_one rfl ?_; simp (disch := (first | decide | assumption | omega)) only [i_push, i_null, i_ild, i_ald, i_ist, i_ast, i_inc, i_bin, i_div, i_un, i_dup, i_pop, i_dup2, i_if, i_icmp, i_nul, i_nnl, i_goto, i_getf, i_putf, i_gets, i_nald, i_nast, i_aald, i_aast, i_alen, i_new, i_newa, i_newq, i_math, i_oini, i_iret, i_zret, i_aret, i_vret, z_fit, List.getElem?_cons_zero, List.getElem?_cons_succ, List.set_cons_zero, List.set_cons_succ, Nat.reduceAdd, Nat.reduceLT, Nat.reduceLeDiff, Nat.reduceEqDiff, Nat.zero_lt_succ, Value.category, true_and, or_true, true_or, and_true, false_implies, true_implies, not_false_eq_true, not_true_eq_false, List.map_cons, List.map_nil, List.sum_cons, List.sum_nil, va_up_eq, bx_uu, va_up_lit, List.length_cons, List.length_nil, List.drop_succ_cons, List.drop_zero, Option.toList_some, Option.toList_none, List.cons_append, List.nil_append, q01]))
      exact this
    · (repeat (refine zS_one rfl ?_; simp (disch := (first | decide | assumption | omega)) only [i_push, i_null, i_ild, i_ald, i_ist, i_ast, i_inc, i_bin, i_div, i_un, i_dup, i_pop, i_dup2, i_if, i_icmp, i_nul, i_nnl, i_goto, i_getf, i_putf, i_gets, i_nald, i_nast, i_aald, i_aast, i_alen, i_new, i_newa, i_newq, i_math, i_oini, i_iret, i_zret, i_aret, i_vret, z_fit, List.getElem?_cons_zero, List.getElem?_cons_succ, List.set_cons_zero, List.set_cons_succ, Nat.reduceAdd, Nat.reduceLT, Nat.reduceLeDiff, Nat.reduceEqDiff, Nat.zero_lt_succ, Value.category, true_and, or_true, true_or, and_true, false_implies, true_implies, not_false_eq_true, not_true_eq_false, List.map_cons, List.map_nil, List.sum_cons, List.sum_nil, va_up_eq, bx_uu, va_up_lit, List.length_cons, List.length_nil, List.drop_succ_cons, List.drop_zero, Option.toList_some, Option.toList_none, List.cons_append, List.nil_append, hp1, hp0]))
      exact hP _ _ (Or.inl ⟨rfl, rfl, fun z => by rcases z.1 with e | e; exact hp0 e; exact hp1 e⟩)
end ST7
