/-- what workOut leaves of the term t -/
def kvM (A : Nat → Nat → Int32) (G K : Nat → Int32) (t : Nat) : Prop :=
  (K t = 0 ∨ K t = 1) ∧ (A 16 t = 3 → ∀ p q, p ≤ 20 → q ≤ 20 → A 17 t = nI (256 * p + q) → (K t = 0 ↔ G p = 0 ∧ G q = 0)) ∧
  ((A 16 t = 4 ∨ A 16 t = 5 ∨ A 16 t = 6) → (K t = 0 ↔ K (A 18 t).toNatClampNeg = 0 ∨ K (A 19 t).toNatClampNeg = 0)) ∧
  (A 16 t = 7 → (K t = 0 ↔ K (A 18 t).toNatClampNeg = 0)) ∧ ((A 16 t = 1 ∨ A 16 t = 2 ∨ A 16 t = 8) → ¬ K t = 0)
theorem d256 : ∀ p, p < 21 → ∀ q, q < 21 → nI (256 * p + q) / 256 = nI p ∧ nI (256 * p + q) - nI (256 * p + q) / 256 * 256 = nI q := by decide +kernel
/-- the children lie below -/
theorem rw_M_ch {A : Nat → Nat → Int32} {t : Nat} {den : Nat → zT} {τ : zT} (h : rw_M (A 16 t) (A 17 t) (A 18 t) (A 19 t) (A 20 t) den t τ) (ht : t < 1200) : ((A 16 t = 4 ∨ A 16 t = 5 ∨ A 16 t = 6 ∨ A 16 t = 7) → (A 18 t).toNatClampNeg < t) ∧ ((A 16 t = 4 ∨ A 16 t = 5 ∨ A 16 t = 6) → (A 19 t).toNatClampNeg < t) := by
  rcases h with ⟨hk, -⟩ | ⟨hk, -⟩ | ⟨hk, -⟩ | ⟨hk, x, y, hx, hy, -, e1, e2, -⟩ | ⟨hk, x, hx, e1, -⟩ | ⟨hk, -⟩
  · rw [hk]; exact ⟨fun z => by rcases z with z | z | z | z <;> exact absurd z (by decide), fun z => by rcases z with z | z | z <;> exact absurd z (by decide)⟩
  · rw [hk]; exact ⟨fun z => by rcases z with z | z | z | z <;> exact absurd z (by decide), fun z => by rcases z with z | z | z <;> exact absurd z (by decide)⟩
  · rw [hk]; exact ⟨fun z => by rcases z with z | z | z | z <;> exact absurd z (by decide), fun z => by rcases z with z | z | z <;> exact absurd z (by decide)⟩
  · rw [e1, e2, nI_clamp (by omega), nI_clamp (by omega)]
    exact ⟨fun _ => hx, fun _ => hy⟩
  · rw [e1, nI_clamp (by omega), hk]
    exact ⟨fun _ => hx, fun z => by rcases z with z | z | z <;> exact absurd z (by decide)⟩
  · rw [hk]; exact ⟨fun z => by rcases z with z | z | z | z <;> exact absurd z (by decide), fun z => by rcases z with z | z | z <;> exact absurd z (by decide)⟩
theorem kvM_up {A : Nat → Nat → Int32} {G K : Nat → Int32} {t j : Nat} {v : Int32} {den : Nat → zT} {τ : zT} (h : kvM A G K t) (ht : t < j) (hj : j < 1200) (hr : rw_M (A 16 t) (A 17 t) (A 18 t) (A 19 t) (A 20 t) den t τ) : kvM A G (upd K j v) t := by
  obtain ⟨h1, h2⟩ := rw_M_ch hr (by omega)
  obtain ⟨k0, k3, k4, k7, k1⟩ := h
  unfold kvM
  rw [upd_n (by omega)]
  refine ⟨k0, k3, fun z => ?_, fun z => ?_, k1⟩
  · rw [upd_n (by have := h1 (by rcases z with z | z | z; exact Or.inl z; exact Or.inr (Or.inl z); exact Or.inr (Or.inr (Or.inl z))); omega), upd_n (by have := h2 z; omega)]
    exact k4 z
  · rw [upd_n (by have := h1 (Or.inr (Or.inr (Or.inr z))); omega)]
    exact k7 z
section MOV
variable {h0 : zH} {S : Nat → Int32} {A : Nat → Nat → Int32} {ns n made m : Nat} {den : Nat → zT} {G : Nat → Int32} {ps : Nat → List zT} {V : Nat → zV}
set_option maxHeartbeats 16000000 in
theorem c_workOut (sc : Nat × (Nat → Int32)) (d : Nat) (hW : MW h0 S A n den) (hG : ∀ j, j ≤ 20 → A 24 j = G j) : zMt zTab sc (d + 1) 85 [.ref 15] h0 0 0 (fun r h' => r = none ∧ frN h0 h' ∧ ∃ K, MW h' S (va_up A 21 K) n den ∧ ∀ t, t < n → kvM A G K t) := by
  have hT := hW.2.2
  have h12 := hT.1
  have o := hW.o
  rw [hW.2.1] at o
  have a16 := hW.a 16 2 1200 (by decide) (by decide) rfl rfl
  have a17 := hW.a 17 0 1200 (by decide) (by decide) rfl rfl
  have a18 := hW.a 18 3 1200 (by decide) (by decide) rfl rfl
  have a19 := hW.a 19 3 1200 (by decide) (by decide) rfl rfl
  have a21 := hW.a 21 1 1200 (by decide) (by decide) rfl rfl
  have a24 := hW.a 24 1 40 (by decide) (by decide) rfl rfl
  have q11 : (1 : Int32) &&& 1 = 1 := by decide
  have q00 : (0 : Int32) &&& 1 = 0 := by decide
  have q256 : ¬ (256 : Int32) = 0 := by decide
  have q10 : ¬ (1 : Int32) = 0 := by decide
  refine zM_gen fun P hP => ?_
  refine zM_start (r := r_Mo_workOut) (cd := k_Mo_workOut) (L0 := [some (.ref 15), none, none, none]) rfl rfl rfl rfl rfl ?_
  have loop : ∀ (c j : Nat) (K : Nat → Int32) (l2 l3 : Option Value), j + c = n → (∀ t, t < j → kvM A G K t) → zS (zMt zTab sc d, (0, 0), sc) k_Mo_workOut P (2, [some (.ref 15), some (.int (nI j)), l2, l3], [], (va_up h0.1 21 (.inl (1, 1200, .inl K)), h0.2), 0, 0) := by
    intro c
    induction c with
    | zero =>
      intro j K l2 l3 hj hk
      have hj' : j = n := hj
      subst hj'
      have w : nI j ≤ nI j := nI_le (Nat.le_refl _) (by omega)
      (repeat (refine zS_one rfl ?_; simp (disch := (first | decide | assumption | omega)) only [i_push, i_null, i_ild, i_ald, i_ist, i_ast, i_inc, i_bin, i_div, i_un, i_dup, i_pop, i_dup2, i_if, i_icmp, i_nul, i_nnl, i_goto, i_getf, i_putf, i_gets, i_nald, i_nast, i_aald, i_aast, i_alen, i_new, i_newa, i_newq, i_math, i_oini, i_iret, i_zret, i_aret, i_vret, z_fit, List.getElem?_cons_zero, List.getElem?_cons_succ, List.set_cons_zero, List.set_cons_succ, Nat.reduceAdd, Nat.reduceLT, Nat.reduceLeDiff, Nat.reduceEqDiff, Nat.zero_lt_succ, Value.category, true_and, or_true, true_or, and_true, false_implies, true_implies, not_false_eq_true, not_true_eq_false, List.map_cons, List.map_nil, List.sum_cons, List.sum_nil, va_up_eq, bx_uu, va_up_lit, List.length_cons, List.length_nil, List.drop_succ_cons, List.drop_zero, Option.toList_some, Option.toList_none, List.cons_append, List.nil_append, o, w]))
      exact hP _ _ ⟨rfl, frN.put (by decide) (by decide), K, hW.put 21 K (by decide) (by decide) rfl rfl, hk⟩
    | succ c ih =>
      intro j K l2 l3 hj hk
      have w : ¬ nI n ≤ nI j := nI_ge (by omega) (by omega)
      have w3 : vp_in (nI j) 1200 := vp_in_nI (by omega) (by decide)
      have w4 : (nI j).toNatClampNeg = j := nI_clamp (by omega)
      have hr := hT.2.1 j (by omega)
      have go : ∀ v : Int32, kvM A G (upd K j v) j → zS (zMt zTab sc d, (0, 0), sc) k_Mo_workOut P (168, [some (.ref 15), some (.int (nI j)), some (.int (A 18 j)), some (.int (A 19 j))], [], (va_up h0.1 21 (.inl (1, 1200, .inl (upd K j v))), h0.2), 0, 0) := by
        intro v hv
        have := ih (j + 1) (upd K j v) (some (.int (A 18 j))) (some (.int (A 19 j))) (by omega) (fun t ht => by
          by_cases z : t = j
          · subst z; exact hv
          · exact kvM_up (hk t (by omega)) (by omega) (by omega) (hT.2.1 t (by omega)))
        (iterate 2 (refine zS_one rfl ?_; simp (disch := (first | decide | assumption | omega)) only [i_push, i_null, i_ild, i_ald, i_ist, i_ast, i_inc, i_bin, i_div, i_un, i_dup, i_pop, i_dup2, i_if, i_icmp, i_nul, i_nnl, i_goto, i_getf, i_putf, i_gets, i_nald, i_nast, i_aald, i_aast, i_alen, i_new, i_newa, i_newq, i_math, i_oini, i_iret, i_zret, i_aret, i_vret, z_fit, List.getElem?_cons_zero, List.getElem?_cons_succ, List.set_cons_zero, List.set_cons_succ, Nat.reduceAdd, Nat.reduceLT, Nat.reduceLeDiff, Nat.reduceEqDiff, Nat.zero_lt_succ, Value.category, true_and, or_true, true_or, and_true, false_implies, true_implies, not_false_eq_true, not_true_eq_false, List.map_cons, List.map_nil, List.sum_cons, List.sum_nil, va_up_eq, bx_uu, va_up_lit, List.length_cons, List.length_nil, List.drop_succ_cons, List.drop_zero, Option.toList_some, Option.toList_none, List.cons_append, List.nil_append, nI_1']))
        exact this
      (iterate 18 (refine zS_one rfl ?_; simp (disch := (first | decide | assumption | omega)) only [i_push, i_null, i_ild, i_ald, i_ist, i_ast, i_inc, i_bin, i_div, i_un, i_dup, i_pop, i_dup2, i_if, i_icmp, i_nul, i_nnl, i_goto, i_getf, i_putf, i_gets, i_nald, i_nast, i_aald, i_aast, i_alen, i_new, i_newa, i_newq, i_math, i_oini, i_iret, i_zret, i_aret, i_vret, z_fit, List.getElem?_cons_zero, List.getElem?_cons_succ, List.set_cons_zero, List.set_cons_succ, Nat.reduceAdd, Nat.reduceLT, Nat.reduceLeDiff, Nat.reduceEqDiff, Nat.zero_lt_succ, Value.category, true_and, or_true, true_or, and_true, false_implies, true_implies, not_false_eq_true, not_true_eq_false, List.map_cons, List.map_nil, List.sum_cons, List.sum_nil, va_up_eq, bx_uu, va_up_lit, List.length_cons, List.length_nil, List.drop_succ_cons, List.drop_zero, Option.toList_some, Option.toList_none, List.cons_append, List.nil_append, o, a16, a18, a19, w, w3, w4]))
      (try refine zS_one rfl ?_)
      -- kinds that are always known
      have oth : (A 16 j = 1 ∨ A 16 j = 2 ∨ A 16 j = 8) → zS (zMt zTab sc d, (0, 0), sc) k_Mo_workOut P (161, [some (.ref 15), some (.int (nI j)), some (.int (A 18 j)), some (.int (A 19 j))], [], (va_up h0.1 21 (.inl (1, 1200, .inl K)), h0.2), 0, 0) := by
        intro hk1
        have := go 1 ⟨Or.inr upd_s, fun z => by rw [z] at hk1; rcases hk1 with h | h | h <;> exact absurd h (by decide), fun z => by rcases z with z | z | z <;> rw [z] at hk1 <;> rcases hk1 with h | h | h <;> exact absurd h (by decide), fun z => by rw [z] at hk1; rcases hk1 with h | h | h <;> exact absurd h (by decide), fun _ => by rw [upd_s]; exact q10⟩
        (iterate 5 (refine zS_one rfl ?_; simp (disch := (first | decide | assumption | omega)) only [i_push, i_null, i_ild, i_ald, i_ist, i_ast, i_inc, i_bin, i_div, i_un, i_dup, i_pop, i_dup2, i_if, i_icmp, i_nul, i_nnl, i_goto, i_getf, i_putf, i_gets, i_nald, i_nast, i_aald, i_aast, i_alen, i_new, i_newa, i_newq, i_math, i_oini, i_iret, i_zret, i_aret, i_vret, z_fit, List.getElem?_cons_zero, List.getElem?_cons_succ, List.set_cons_zero, List.set_cons_succ, Nat.reduceAdd, Nat.reduceLT, Nat.reduceLeDiff, Nat.reduceEqDiff, Nat.zero_lt_succ, Value.category, true_and, or_true, true_or, and_true, false_implies, true_implies, not_false_eq_true, not_true_eq_false, List.map_cons, List.map_nil, List.sum_cons, List.sum_nil, va_up_eq, bx_uu, va_up_lit, List.length_cons, List.length_nil, List.drop_succ_cons, List.drop_zero, Option.toList_some, Option.toList_none, List.cons_append, List.nil_append, o, w3, w4, q11]))
        exact this
      rcases hr with ⟨hk', -⟩ | ⟨hk', -⟩ | ⟨hk', -, -, -, p, q, hp, hq, ev, -⟩ | ⟨hk', x, y, hx, hy, -, ea, eb, -⟩ | ⟨hk', x, hx, ea, eb, -⟩ | ⟨hk', -⟩
      · refine r_tswOut (E := (zMt zTab sc d, (0, 0), sc)) (Q := P) (by rw [hk']; decide) ?_
        exact oth (Or.inl hk')
      · refine r_tswOut (E := (zMt zTab sc d, (0, 0), sc)) (Q := P) (by rw [hk']; decide) ?_
        exact oth (Or.inr (Or.inl hk'))
      · have w1 : vp_in (nI p) 40 := vp_in_nI (by omega) (by decide)
        have w2 : (nI p).toNatClampNeg = p := nI_clamp (by omega)
        have w5 : vp_in (nI q) 40 := vp_in_nI (by omega) (by decide)
        have w6 : (nI q).toNatClampNeg = q := nI_clamp (by omega)
        obtain ⟨dv, dm⟩ := d256 p (by omega) q (by omega)
        have gp := hG p hp
        have gq := hG q hq
        rw [dv] at dm
        have mk : ∀ v : Int32, (v = 0 ∨ v = 1) → (v = 0 ↔ G p = 0 ∧ G q = 0) → kvM A G (upd K j v) j := by
          intro v hv hv2
          unfold kvM
          rw [upd_s, hk']
          refine ⟨hv, fun _ p' q' hp' hq' e => ?_, fun z => by rcases z with z | z | z <;> exact absurd z (by decide), fun z => absurd z (by decide), fun z => by rcases z with z | z | z <;> exact absurd z (by decide)⟩
          obtain ⟨rfl, rfl⟩ := nI256 hq hq' hp hp' (ev.symm.trans e)
          exact hv2
        refine r_tswIn (E := (zMt zTab sc d, (0, 0), sc)) (Q := P) 0 (by rw [hk']; decide) rfl ?_
        by_cases f1 : G p = 0
        · by_cases f2 : G q = 0
          · have := go 0 (mk 0 (Or.inl rfl) ⟨fun _ => ⟨f1, f2⟩, fun _ => rfl⟩)
            (iterate 26 (refine zS_one rfl ?_; simp (disch := (first | decide | assumption | omega)) only [i_push, i_null, i_ild, i_ald, i_ist, i_ast, i_inc, i_bin, i_div, i_un, i_dup, i_pop, i_dup2, i_if, i_icmp, i_nul, i_nnl, i_goto, i_getf, i_putf, i_gets, i_nald, i_nast, i_aald, i_aast, i_alen, i_new, i_newa, i_newq, i_math, i_oini, i_iret, i_zret, i_aret, i_vret, z_fit, List.getElem?_cons_zero, List.getElem?_cons_succ, List.set_cons_zero, List.set_cons_succ, Nat.reduceAdd, Nat.reduceLT, Nat.reduceLeDiff, Nat.reduceEqDiff, Nat.zero_lt_succ, Value.category, true_and, or_true, true_or, and_true, false_implies, true_implies, not_false_eq_true, not_true_eq_false, List.map_cons, List.map_nil, List.sum_cons, List.sum_nil, va_up_eq, bx_uu, va_up_lit, List.length_cons, List.length_nil, List.drop_succ_cons, List.drop_zero, Option.toList_some, Option.toList_none, List.cons_append, List.nil_append, o, a17, a24, w3, w4, ev, q256, dv, dm, w1, w2, w5, w6, gp, gq, f1, f2, q00]))
            exact this
          · have := go 1 (mk 1 (Or.inr rfl) ⟨fun z => absurd z q10, fun z => absurd z.2 f2⟩)
            (iterate 27 (refine zS_one rfl ?_; simp (disch := (first | decide | assumption | omega)) only [i_push, i_null, i_ild, i_ald, i_ist, i_ast, i_inc, i_bin, i_div, i_un, i_dup, i_pop, i_dup2, i_if, i_icmp, i_nul, i_nnl, i_goto, i_getf, i_putf, i_gets, i_nald, i_nast, i_aald, i_aast, i_alen, i_new, i_newa, i_newq, i_math, i_oini, i_iret, i_zret, i_aret, i_vret, z_fit, List.getElem?_cons_zero, List.getElem?_cons_succ, List.set_cons_zero, List.set_cons_succ, Nat.reduceAdd, Nat.reduceLT, Nat.reduceLeDiff, Nat.reduceEqDiff, Nat.zero_lt_succ, Value.category, true_and, or_true, true_or, and_true, false_implies, true_implies, not_false_eq_true, not_true_eq_false, List.map_cons, List.map_nil, List.sum_cons, List.sum_nil, va_up_eq, bx_uu, va_up_lit, List.length_cons, List.length_nil, List.drop_succ_cons, List.drop_zero, Option.toList_some, Option.toList_none, List.cons_append, List.nil_append, o, a17, a24, w3, w4, ev, q256, dv, dm, w1, w2, w5, w6, gp, gq, f1, f2, q11]))
            exact this
        · have := go 1 (mk 1 (Or.inr rfl) ⟨fun z => absurd z q10, fun z => absurd z.1 f1⟩)
          (iterate 17 (refine zS_one rfl ?_; simp (disch := (first | decide | assumption | omega)) only [i_push, i_null, i_ild, i_ald, i_ist, i_ast, i_inc, i_bin, i_div, i_un, i_dup, i_pop, i_dup2, i_if, i_icmp, i_nul, i_nnl, i_goto, i_getf, i_putf, i_gets, i_nald, i_nast, i_aald, i_aast, i_alen, i_new, i_newa, i_newq, i_math, i_oini, i_iret, i_zret, i_aret, i_vret, z_fit, List.getElem?_cons_zero, List.getElem?_cons_succ, List.set_cons_zero, List.set_cons_succ, Nat.reduceAdd, Nat.reduceLT, Nat.reduceLeDiff, Nat.reduceEqDiff, Nat.zero_lt_succ, Value.category, true_and, or_true, true_or, and_true, false_implies, true_implies, not_false_eq_true, not_true_eq_false, List.map_cons, List.map_nil, List.sum_cons, List.sum_nil, va_up_eq, bx_uu, va_up_lit, List.length_cons, List.length_nil, List.drop_succ_cons, List.drop_zero, Option.toList_some, Option.toList_none, List.cons_append, List.nil_append, o, a17, a24, w3, w4, ev, q256, dv, dm, w1, w2, w5, w6, gp, gq, f1, q11]))
          exact this
      · have w1 : vp_in (nI x) 1200 := vp_in_nI (by omega) (by decide)
        have w2 : (nI x).toNatClampNeg = x := nI_clamp (by omega)
        have w5 : vp_in (nI y) 1200 := vp_in_nI (by omega) (by decide)
        have w6 : (nI y).toNatClampNeg = y := nI_clamp (by omega)
        have mk : ∀ v : Int32, (v = 0 ∨ v = 1) → (v = 0 ↔ K x = 0 ∨ K y = 0) → kvM A G (upd K j v) j := by
          intro v hv hv2
          unfold kvM
          rw [upd_s, ea, eb, w2, w6, upd_n (by omega), upd_n (by omega)]
          refine ⟨hv, fun z => ?_, fun _ => hv2, fun z => ?_, fun z => ?_⟩
          · rw [z] at hk'; rcases hk' with h | h | h <;> exact absurd h (by decide)
          · rw [z] at hk'; rcases hk' with h | h | h <;> exact absurd h (by decide)
          · rcases z with z | z | z <;> rw [z] at hk' <;> rcases hk' with h | h | h <;> exact absurd h (by decide)
        have run : zS (zMt zTab sc d, (0, 0), sc) k_Mo_workOut P (114, [some (.ref 15), some (.int (nI j)), some (.int (A 18 j)), some (.int (A 19 j))], [], (va_up h0.1 21 (.inl (1, 1200, .inl K)), h0.2), 0, 0) := by
          rw [ea, eb] at go ⊢
          by_cases f1 : K x = 0
          · have := go 0 (mk 0 (Or.inl rfl) ⟨fun _ => Or.inl f1, fun _ => rfl⟩)
            (iterate 11 (refine zS_one rfl ?_; simp (disch := (first | decide | assumption | omega)) only [i_push, i_null, i_ild, i_ald, i_ist, i_ast, i_inc, i_bin, i_div, i_un, i_dup, i_pop, i_dup2, i_if, i_icmp, i_nul, i_nnl, i_goto, i_getf, i_putf, i_gets, i_nald, i_nast, i_aald, i_aast, i_alen, i_new, i_newa, i_newq, i_math, i_oini, i_iret, i_zret, i_aret, i_vret, z_fit, List.getElem?_cons_zero, List.getElem?_cons_succ, List.set_cons_zero, List.set_cons_succ, Nat.reduceAdd, Nat.reduceLT, Nat.reduceLeDiff, Nat.reduceEqDiff, Nat.zero_lt_succ, Value.category, true_and, or_true, true_or, and_true, false_implies, true_implies, not_false_eq_true, not_true_eq_false, List.map_cons, List.map_nil, List.sum_cons, List.sum_nil, va_up_eq, bx_uu, va_up_lit, List.length_cons, List.length_nil, List.drop_succ_cons, List.drop_zero, Option.toList_some, Option.toList_none, List.cons_append, List.nil_append, o, w3, w4, w1, w2, f1, q00]))
            exact this
          · by_cases f2 : K y = 0
            · have := go 0 (mk 0 (Or.inl rfl) ⟨fun _ => Or.inr f2, fun _ => rfl⟩)
              (iterate 16 (refine zS_one rfl ?_; simp (disch := (first | decide | assumption | omega)) only [i_push, i_null, i_ild, i_ald, i_ist, i_ast, i_inc, i_bin, i_div, i_un, i_dup, i_pop, i_dup2, i_if, i_icmp, i_nul, i_nnl, i_goto, i_getf, i_putf, i_gets, i_nald, i_nast, i_aald, i_aast, i_alen, i_new, i_newa, i_newq, i_math, i_oini, i_iret, i_zret, i_aret, i_vret, z_fit, List.getElem?_cons_zero, List.getElem?_cons_succ, List.set_cons_zero, List.set_cons_succ, Nat.reduceAdd, Nat.reduceLT, Nat.reduceLeDiff, Nat.reduceEqDiff, Nat.zero_lt_succ, Value.category, true_and, or_true, true_or, and_true, false_implies, true_implies, not_false_eq_true, not_true_eq_false, List.map_cons, List.map_nil, List.sum_cons, List.sum_nil, va_up_eq, bx_uu, va_up_lit, List.length_cons, List.length_nil, List.drop_succ_cons, List.drop_zero, Option.toList_some, Option.toList_none, List.cons_append, List.nil_append, o, w3, w4, w1, w2, w5, w6, f1, f2, q00]))
              exact this
            · have := go 1 (mk 1 (Or.inr rfl) ⟨fun z => absurd z q10, fun z => by rcases z with z | z; exact absurd z f1; exact absurd z f2⟩)
              (iterate 17 (refine zS_one rfl ?_; simp (disch := (first | decide | assumption | omega)) only [i_push, i_null, i_ild, i_ald, i_ist, i_ast, i_inc, i_bin, i_div, i_un, i_dup, i_pop, i_dup2, i_if, i_icmp, i_nul, i_nnl, i_goto, i_getf, i_putf, i_gets, i_nald, i_nast, i_aald, i_aast, i_alen, i_new, i_newa, i_newq, i_math, i_oini, i_iret, i_zret, i_aret, i_vret, z_fit, List.getElem?_cons_zero, List.getElem?_cons_succ, List.set_cons_zero, List.set_cons_succ, Nat.reduceAdd, Nat.reduceLT, Nat.reduceLeDiff, Nat.reduceEqDiff, Nat.zero_lt_succ, Value.category, true_and, or_true, true_or, and_true, false_implies, true_implies, not_false_eq_true, not_true_eq_false, List.map_cons, List.map_nil, List.sum_cons, List.sum_nil, va_up_eq, bx_uu, va_up_lit, List.length_cons, List.length_nil, List.drop_succ_cons, List.drop_zero, Option.toList_some, Option.toList_none, List.cons_append, List.nil_append, o, w3, w4, w1, w2, w5, w6, f1, f2, q11]))
              exact this
        rcases hk' with hk' | hk' | hk'
        · exact r_tswIn (E := (zMt zTab sc d, (0, 0), sc)) (Q := P) 1 (by rw [hk']; decide) rfl run
        · exact r_tswIn (E := (zMt zTab sc d, (0, 0), sc)) (Q := P) 2 (by rw [hk']; decide) rfl run
        · exact r_tswIn (E := (zMt zTab sc d, (0, 0), sc)) (Q := P) 3 (by rw [hk']; decide) rfl run
      · have w1 : vp_in (nI x) 1200 := vp_in_nI (by omega) (by decide)
        have w2 : (nI x).toNatClampNeg = x := nI_clamp (by omega)
        have kx := (hk x hx).1
        have kx1 : K x &&& 1 = K x := by rcases kx with h | h <;> rw [h] <;> decide
        refine r_tswIn (E := (zMt zTab sc d, (0, 0), sc)) (Q := P) 4 (by rw [hk']; decide) rfl ?_
        have := go (K x) (by
          unfold kvM
          rw [upd_s, ea, w2, upd_n (by omega), hk']
          exact ⟨kx, fun z => absurd z (by decide), fun z => by rcases z with z | z | z <;> exact absurd z (by decide), fun _ => Iff.rfl, fun z => by rcases z with z | z | z <;> exact absurd z (by decide)⟩)
        rw [ea] at this ⊢
        (iterate 9 (refine zS_one rfl ?_; simp (disch := (first | decide | assumption | omega)) only [i_push, i_null, i_ild, i_ald, i_ist, i_ast, i_inc, i_bin, i_div, i_un, i_dup, i_pop, i_dup2, i_if, i_icmp, i_nul, i_nnl, i_goto, i_getf, i_putf, i_gets, i_nald, i_nast, i_aald, i_aast, i_alen, i_new, i_newa, i_newq, i_math, i_oini, i_iret, i_zret, i_aret, i_vret, z_fit, List.getElem?_cons_zero, List.getElem?_cons_succ, List.set_cons_zero, List.set_cons_succ, Nat.reduceAdd, Nat.reduceLT, Nat.reduceLeDiff, Nat.reduceEqDiff, Nat.zero_lt_succ, Value.category, true_and, or_true, true_or, and_true, false_implies, true_implies, not_false_eq_true, not_true_eq_false, List.map_cons, List.map_nil, List.sum_cons, List.sum_nil, va_up_eq, bx_uu, va_up_lit, List.length_cons, List.length_nil, List.drop_succ_cons, List.drop_zero, Option.toList_some, Option.toList_none, List.cons_append, List.nil_append, o, w3, w4, w1, w2, kx1]))
        exact this
      · refine r_tswOut (E := (zMt zTab sc d, (0, 0), sc)) (Q := P) (by rw [hk']; decide) ?_
        exact oth (Or.inr (Or.inr hk'))
  have := loop n 0 (A 21) none none (by omega) (fun t ht => by omega)
  have e : va_up h0.1 21 (.inl (1, 1200, .inl (A 21))) = h0.1 := by
    funext q
    by_cases z : q = 21
    · subst z
      rw [va_up_eq, a21]
    · rw [va_up_lit _ _ _ _ z]
  rw [e] at this
  (iterate 2 (refine zS_one rfl ?_; simp (disch := (first | decide | assumption | omega)) only [i_push, i_null, i_ild, i_ald, i_ist, i_ast, i_inc, i_bin, i_div, i_un, i_dup, i_pop, i_dup2, i_if, i_icmp, i_nul, i_nnl, i_goto, i_getf, i_putf, i_gets, i_nald, i_nast, i_aald, i_aast, i_alen, i_new, i_newa, i_newq, i_math, i_oini, i_iret, i_zret, i_aret, i_vret, z_fit, List.getElem?_cons_zero, List.getElem?_cons_succ, List.set_cons_zero, List.set_cons_succ, Nat.reduceAdd, Nat.reduceLT, Nat.reduceLeDiff, Nat.reduceEqDiff, Nat.zero_lt_succ, Value.category, true_and, or_true, true_or, and_true, false_implies, true_implies, not_false_eq_true, not_true_eq_false, List.map_cons, List.map_nil, List.sum_cons, List.sum_nil, va_up_eq, bx_uu, va_up_lit, List.length_cons, List.length_nil, List.drop_succ_cons, List.drop_zero, Option.toList_some, Option.toList_none, List.cons_append, List.nil_append, nI_1']))
  exact this
/-- some reading of what is known -/
def KM (n : Nat) (den : Nat → zT) (G K : Nat → Int32) : Prop := ∃ A, TM A n den ∧ ∀ t, t < n → kvM A G K t
/-- both tables know the same -/
theorem known_eq {h : zH} {n k n' : Nat} {den den' : Nat → zT} {G K : Nat → Int32} (hO : tOK h n k den G) (hK : KM n' den' G K) : ∀ t u, 0 < t → t ≤ n → u < n' → den t = den' u → (hA h 7 t = 0 ↔ K u = 0) := by
  obtain ⟨T, ⟨e1, e2, e3, e4, e5, e6, e7, e8, e9, e10⟩, hI, hG⟩ := hO
  obtain ⟨A, hT, hk⟩ := hK
  have hn := hI.1
  have h12 := hT.1
  rw [hA_of e7]
  have key : ∀ f t u, t ≤ f → 0 < t → t ≤ n → u < n' → den t = den' u → (T 5 t = 0 ↔ K u = 0) := by
    intro f
    induction f with
    | zero => intro t u h1 h2; omega
    | succ f ih =>
      intro t u htf ht htn hu hd
      have hr := hI.2.2.2.2.2.1 t ht htn
      have hkv := hI.2.2.2.2.2.2.2.1 t ht htn
      have hr' := hT.2.1 u hu
      obtain ⟨k0, k3, k4, k7, k1⟩ := hk u hu
      have kk : T 0 t = A 16 u := by
        apply i32_inj
        rw [← rw_C_kd hr, ← rw_M_kd hr', hd]
      have jz : T 5 t = 0 ↔ ¬ jg T t := by
        rcases hkv with ⟨q1, q2⟩ | ⟨q1, q2⟩
        · rw [q1]; exact ⟨fun z => absurd z (by decide), fun z => absurd q2 z⟩
        · exact ⟨fun _ => q2, fun _ => q1⟩
      have h01 : ∀ x, T 5 x = 0 ∨ T 5 x = 1 := hI.2.2.1
      rw [jz]
      rcases hr with ⟨hk', -⟩ | ⟨hk', -⟩ | ⟨hk', ⟨p, hp, ep⟩, ⟨q, hq, eq⟩, -, -, ed⟩ | ⟨hk', x, y, x1, x2, y1, y2, ea, eb, -, -, ed⟩ | ⟨hk', x, x1, x2, ea, -, -, ed⟩ | ⟨hk', -⟩
      · have := k1 (Or.inl (kk.symm.trans hk'))
        exact ⟨fun z => absurd (jg_oth (by rw [hk']; decide) (by rw [hk']; decide) (by rw [hk']; decide)) z, fun z => absurd z this⟩
      · have := k1 (Or.inr (Or.inl (kk.symm.trans hk')))
        exact ⟨fun z => absurd (jg_oth (by rw [hk']; decide) (by rw [hk']; decide) (by rw [hk']; decide)) z, fun z => absurd z this⟩
      · have c1 : (nI p).toNatClampNeg = p := nI_clamp (by omega)
        have c2 : (nI q).toNatClampNeg = q := nI_clamp (by omega)
        have jj : jg T t ↔ (¬ T 8 p = 0 ∨ ¬ T 8 q = 0) := by
          unfold jg
          rw [hk', ep, eq, c1, c2]
          exact ⟨fun z => z.1 rfl, fun z => ⟨fun _ => z, fun w => by rcases w with w | w | w <;> exact absurd w (by decide), fun w => absurd w (by decide)⟩⟩
        rcases hr' with ⟨hk2, -⟩ | ⟨hk2, -⟩ | ⟨hk2, -, -, -, p', q', hp', hq', ev, ed'⟩ | ⟨hk2, -⟩ | ⟨hk2, -⟩ | ⟨hk2, -⟩
        · rw [hk', hk2] at kk; exact absurd kk (by decide)
        · rw [hk', hk2] at kk; exact absurd kk (by decide)
        · have e := nd_inj (ed.symm.trans (hd.trans ed'))
          rw [ep, eq] at e
          have z1 := nI_inj (by omega) (by omega) (i32_inj e.2.1)
          have z2 := nI_inj (by omega) (by omega) (i32_inj e.2.2.1)
          subst z1 z2
          rw [k3 hk2 p q hp hq ev, jj, ← hG]
          constructor
          · intro z
            exact ⟨Classical.byContradiction (fun w => z (Or.inl w)), Classical.byContradiction (fun w => z (Or.inr w))⟩
          · rintro ⟨z1, z2⟩ (w | w)
            · exact w z1
            · exact w z2
        · rw [← kk, hk'] at hk2; rcases hk2 with h | h | h <;> exact absurd h (by decide)
        · rw [hk', hk2] at kk; exact absurd kk (by decide)
        · rw [hk', hk2] at kk; exact absurd kk (by decide)
      · have c1 : (nI x).toNatClampNeg = x := nI_clamp (by omega)
        have c2 : (nI y).toNatClampNeg = y := nI_clamp (by omega)
        have jj : jg T t ↔ (¬ T 5 x = 0 ∧ ¬ T 5 y = 0) := by
          unfold jg
          rw [ea, eb, c1, c2]
          refine ⟨fun z => z.2.1 hk', fun z => ⟨fun w => ?_, fun _ => z, fun w => ?_⟩⟩
          · rw [w] at hk'; rcases hk' with h | h | h <;> exact absurd h (by decide)
          · rw [w] at hk'; rcases hk' with h | h | h <;> exact absurd h (by decide)
        have hk3 := hk'
        rw [kk] at hk3
        rcases hr' with ⟨hk2, -⟩ | ⟨hk2, -⟩ | ⟨hk2, -⟩ | ⟨hk2, x', y', x3, y3, -, ea', eb', -, ed'⟩ | ⟨hk2, -⟩ | ⟨hk2, -⟩
        · rw [hk2] at hk3; rcases hk3 with h | h | h <;> exact absurd h (by decide)
        · rw [hk2] at hk3; rcases hk3 with h | h | h <;> exact absurd h (by decide)
        · rw [hk2] at hk3; rcases hk3 with h | h | h <;> exact absurd h (by decide)
        · have e := nd_inj (ed.symm.trans (hd.trans ed'))
          have i1 := ih x x' (by omega) x1 (by omega) (by omega) e.2.2.2.1
          have i2 := ih y y' (by omega) y1 (by omega) (by omega) e.2.2.2.2.1
          rw [k4 hk2, ea', eb', nI_clamp (by omega), nI_clamp (by omega), jj, ← i1, ← i2]
          constructor
          · intro z
            by_cases w : T 5 x = 0
            · exact Or.inl w
            · exact Or.inr (Classical.byContradiction (fun w2 => z ⟨w, w2⟩))
          · rintro (w | w) ⟨z1, z2⟩
            · exact z1 w
            · exact z2 w
        · rw [hk2] at hk3; rcases hk3 with h | h | h <;> exact absurd h (by decide)
        · rw [hk2] at hk3; rcases hk3 with h | h | h <;> exact absurd h (by decide)
      · have c1 : (nI x).toNatClampNeg = x := nI_clamp (by omega)
        have jj : jg T t ↔ ¬ T 5 x = 0 := by
          unfold jg
          rw [ea, c1, hk']
          exact ⟨fun z => z.2.2 rfl, fun z => ⟨fun w => absurd w (by decide), fun w => by rcases w with w | w | w <;> exact absurd w (by decide), fun _ => z⟩⟩
        rcases hr' with ⟨hk2, -⟩ | ⟨hk2, -⟩ | ⟨hk2, -⟩ | ⟨hk2, -⟩ | ⟨hk2, x', x3, ea', -, -, ed'⟩ | ⟨hk2, -⟩
        · rw [hk', hk2] at kk; exact absurd kk (by decide)
        · rw [hk', hk2] at kk; exact absurd kk (by decide)
        · rw [hk', hk2] at kk; exact absurd kk (by decide)
        · rw [← kk, hk'] at hk2; rcases hk2 with h | h | h <;> exact absurd h (by decide)
        · have e := nd_inj (ed.symm.trans (hd.trans ed'))
          have i1 := ih x x' (by omega) x1 (by omega) (by omega) e.2.2.2.1
          rw [k7 hk2, ea', nI_clamp (by omega), jj, ← i1]
          exact ⟨fun z => Classical.not_not.mp z, fun z w => w z⟩
        · rw [hk', hk2] at kk; exact absurd kk (by decide)
      · have := k1 (Or.inr (Or.inr (kk.symm.trans hk')))
        exact ⟨fun z => absurd (jg_oth (by rw [hk']; decide) (by rw [hk']; decide) (by rw [hk']; decide)) z, fun z => absurd z this⟩
  exact fun t u h1 h2 h3 h4 => key t t u (Nat.le_refl _) h1 h2 h3 h4
end MOV
