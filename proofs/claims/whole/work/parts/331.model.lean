section MOR
variable {h0 : zH} {S : Nat → Int32} {A : Nat → Nat → Int32} {ns n made m : Nat} {den : Nat → zT} {G : Nat → Int32} {ps : Nat → List zT} {V : Nat → zV} {l : List zT}
theorem TM.row8 (hT : TM A n den) {t : Nat} (ht : t < n) (hk : A 16 t = 8) : ∃ x y z, x < t ∧ y < t ∧ z < t ∧ A 18 t = nI x ∧ A 19 t = nI y ∧ A 20 t = nI z ∧ den t = nd 8 (A 17 t).toInt 0 (den x) (den y) (den z) := by
  rcases hT.2.1 t ht with ⟨hk', -⟩ | ⟨hk', -⟩ | ⟨hk', -⟩ | ⟨hk', -⟩ | ⟨hk', -⟩ | ⟨-, x, y, z, h1, h2, h3, e1, e2, e3, ed⟩
  · rw [hk] at hk'; exact absurd hk' (by decide)
  · rw [hk] at hk'; exact absurd hk' (by decide)
  · rw [hk] at hk'; exact absurd hk' (by decide)
  · rw [hk] at hk'; exact absurd hk' (by decide)
  · rw [hk] at hk'; exact absurd hk' (by decide)
  · exact ⟨x, y, z, h1, h2, h3, e1, e2, e3, ed⟩
theorem TM.row7 (hT : TM A n den) {t : Nat} (ht : t < n) (hk : A 16 t = 7) : ∃ x, x < t ∧ A 18 t = nI x ∧ den t = nd 7 (A 17 t).toInt 0 (den x) [] [] := by
  rcases hT.2.1 t ht with ⟨hk', -⟩ | ⟨hk', -⟩ | ⟨hk', -⟩ | ⟨hk', -⟩ | ⟨-, x, h1, e1, -, -, ed⟩ | ⟨hk', -⟩
  · rw [hk] at hk'; exact absurd hk' (by decide)
  · rw [hk] at hk'; exact absurd hk' (by decide)
  · rw [hk] at hk'; exact absurd hk' (by decide)
  · rw [hk] at hk'; rcases hk' with h | h | h <;> exact absurd h (by decide)
  · exact ⟨x, h1, e1, ed⟩
  · rw [hk] at hk'; exact absurd hk' (by decide)
theorem TM.row1 (hT : TM A n den) {t : Nat} (ht : t < n) (hk : A 16 t = 1) : den t = tN (A 17 t) := by
  rcases hT.2.1 t ht with ⟨-, -, -, -, ed⟩ | ⟨hk', -⟩ | ⟨hk', -⟩ | ⟨hk', -⟩ | ⟨hk', -⟩ | ⟨hk', -⟩
  · exact ed
  · rw [hk] at hk'; exact absurd hk' (by decide)
  · rw [hk] at hk'; exact absurd hk' (by decide)
  · rw [hk] at hk'; rcases hk' with h | h | h <;> exact absurd h (by decide)
  · rw [hk] at hk'; exact absurd hk' (by decide)
  · rw [hk] at hk'; exact absurd hk' (by decide)
theorem i32_nd (v : Int32) : Int32.ofInt v.toInt = v := Int32.ofInt_toInt v
theorem tv_N (v : Int32) : tv (tN v) = v := by
  show Int32.ofInt v.toInt = v
  exact Int32.ofInt_toInt v
set_option maxHeartbeats 16000000 in
theorem c_accepts (sc : Nat × (Nat → Int32)) (d : Nat) (hM : MO h0 ns n made den G m ps V S A) (hB : pB S A n den l) {s : Nat} (hs : s < ns) (hb : ∀ (c : Int32) Z, l[1]? = some (nd 8 c.toInt 0 (rkT (V s).1 (V s).2.1) (tN 0) Z) → c.toInt < 60) : zMt zTab sc (d + 2) 106 [.ref 15, .int (nI s)] h0 0 0 (fun r h' => frN h0 h' ∧ (
    (∃ v Z S' A', accC l (V s).1 (V s).2.1 (V s).2.2 v Z ∧ r = some (.int 1) ∧ MO h' ns n made den G m ps (va_up V s (noteI (topI (V s).1 v) (tv Z), (V s).2.1, upd (V s).2.2 v.toNatClampNeg 1)) S' A')
    ∨ (r = some (.int 0) ∧ (∀ v Z, ¬ accC l (V s).1 (V s).2.1 (V s).2.2 v Z) ∧ MO h' ns n made den G m ps V S A))) := by
  have hW := hM.1
  have hn12 := hM.2.2.1.1
  have hv := hM.2.2.2.2.2.1 s hs
  obtain ⟨⟨e25, e26, e27, e28, e29, e30⟩, ex, ⟨yc, hyc, e32, edc⟩, ek, ⟨e34, e35, e36, e37, e38, e39, e40, e41⟩, ew, hI, h8⟩ := id hv
  have hT := hW.2.2
  have h12 := hT.1
  have o := hW.o
  rw [hB.1] at o
  have a16 := hW.a 16 2 1200 (by decide) (by decide) rfl rfl
  have a17 := hW.a 17 0 1200 (by decide) (by decide) rfl rfl
  have a18 := hW.a 18 3 1200 (by decide) (by decide) rfl rfl
  have a19 := hW.a 19 3 1200 (by decide) (by decide) rfl rfl
  have a20 := hW.a 20 3 1200 (by decide) (by decide) rfl rfl
  have a26 := hW.a 26 1 12 (by decide) (by decide) rfl rfl
  have a32 := hW.a 32 0 12 (by decide) (by decide) rfl rfl
  have a41 := hW.a 41 0 12 (by decide) (by decide) rfl rfl
  have a42 := hW.a 42 0 12 (by decide) (by decide) rfl rfl
  have a43 := hW.a 43 0 3 (by decide) (by decide) rfl rfl
  have w3 : vp_in (nI s) 12 := vp_in_nI (by omega) (by decide)
  have w4 : (nI s).toNatClampNeg = s := nI_clamp (by omega)
  have v0 : vp_in (0 : Int32) 3 := vp_in_nI (n := 0) (N := 3) (by decide) (by decide)
  have c0 : (0 : Int32).toNatClampNeg = 0 := by decide
  have v1 : vp_in (1 : Int32) 3 := vp_in_nI (n := 1) (N := 3) (by decide) (by decide)
  have c1 : (1 : Int32).toNatClampNeg = 1 := by decide
  have q10 : ¬ (1 : Int32) = 0 := by decide
  refine zM_gen fun P hP => ?_
  refine zM_start (r := r_Mo_accepts) (cd := k_Mo_accepts) (L0 := [some (.ref 15), some (.int (nI s)), none, none, none, none, none, none, none, none]) rfl rfl rfl rfl rfl ?_
  have fail : (∀ v Z, ¬ accC l (V s).1 (V s).2.1 (V s).2.2 v Z) → P (some (.int 0)) h0 := fun z => hP _ _ ⟨frN.rf, Or.inr ⟨rfl, z, hM⟩⟩
  by_cases hl : l.length = 2
  rotate_left
  · have hl3 := hB.2.1
    have w : ¬ nI l.length = 2 := fun z => hl (nI_inj (a := l.length) (b := 2) (by omega) (by decide) z)
    (repeat (refine zS_one rfl ?_; simp (disch := (first | decide | assumption | omega)) only [i_push, i_null, i_ild, i_ald, i_ist, i_ast, i_inc, i_bin, i_div, i_un, i_dup, i_pop, i_dup2, i_if, i_icmp, i_nul, i_nnl, i_goto, i_getf, i_putf, i_gets, i_nald, i_nast, i_aald, i_aast, i_alen, i_new, i_newa, i_newq, i_math, i_oini, i_iret, i_zret, i_aret, i_vret, z_fit, List.getElem?_cons_zero, List.getElem?_cons_succ, List.set_cons_zero, List.set_cons_succ, Nat.reduceAdd, Nat.reduceLT, Nat.reduceLeDiff, Nat.reduceEqDiff, Nat.zero_lt_succ, Value.category, true_and, or_true, true_or, and_true, false_implies, true_implies, not_false_eq_true, not_true_eq_false, List.map_cons, List.map_nil, List.sum_cons, List.sum_nil, va_up_eq, bx_uu, va_up_lit, List.length_cons, List.length_nil, List.drop_succ_cons, List.drop_zero, Option.toList_some, Option.toList_none, List.cons_append, List.nil_append, o, w]))
    exact fail (fun v Z z => hl z.1)
  rw [hl] at o
  obtain ⟨τ0, τ1, g0, g1⟩ : ∃ τ0 τ1, l[0]? = some τ0 ∧ l[1]? = some τ1 := by
    match l, hl with
    | [a, b], _ => exact ⟨a, b, rfl, rfl⟩
  obtain ⟨t0, ht0, f0, d0⟩ := hB.2.2 0 τ0 g0
  obtain ⟨t1, ht1, f1, d1⟩ := hB.2.2 1 τ1 g1
  have x3 : vp_in (nI t0) 1200 := vp_in_nI (by omega) (by decide)
  have x4 : (nI t0).toNatClampNeg = t0 := nI_clamp (by omega)
  have y3 : vp_in (nI t1) 1200 := vp_in_nI (by omega) (by decide)
  have y4 : (nI t1).toNatClampNeg = t1 := nI_clamp (by omega)
  have w2 : nI 2 = 2 := rfl
  rw [w2] at o
  by_cases k1 : A 16 t0 = 1
  rotate_left
  · (repeat (refine zS_one rfl ?_; simp (disch := (first | decide | assumption | omega)) only [i_push, i_null, i_ild, i_ald, i_ist, i_ast, i_inc, i_bin, i_div, i_un, i_dup, i_pop, i_dup2, i_if, i_icmp, i_nul, i_nnl, i_goto, i_getf, i_putf, i_gets, i_nald, i_nast, i_aald, i_aast, i_alen, i_new, i_newa, i_newq, i_math, i_oini, i_iret, i_zret, i_aret, i_vret, z_fit, List.getElem?_cons_zero, List.getElem?_cons_succ, List.set_cons_zero, List.set_cons_succ, Nat.reduceAdd, Nat.reduceLT, Nat.reduceLeDiff, Nat.reduceEqDiff, Nat.zero_lt_succ, Value.category, true_and, or_true, true_or, and_true, false_implies, true_implies, not_false_eq_true, not_true_eq_false, List.map_cons, List.map_nil, List.sum_cons, List.sum_nil, va_up_eq, bx_uu, va_up_lit, List.length_cons, List.length_nil, List.drop_succ_cons, List.drop_zero, Option.toList_some, Option.toList_none, List.cons_append, List.nil_append, o, a16, a43, v0, c0, v1, c1, f0, f1, x3, x4, k1]))
    refine fail (fun v Z z => ?_)
    obtain ⟨-, σ0, σ1, z0, z1, z2, -⟩ := z
    cases g0.symm.trans z0
    exact k1 ((hT.kd ht0 1).mpr (by rw [d0]; exact z2))
  by_cases k8 : A 16 t1 = 8
  rotate_left
  · (repeat (refine zS_one rfl ?_; simp (disch := (first | decide | assumption | omega)) only [i_push, i_null, i_ild, i_ald, i_ist, i_ast, i_inc, i_bin, i_div, i_un, i_dup, i_pop, i_dup2, i_if, i_icmp, i_nul, i_nnl, i_goto, i_getf, i_putf, i_gets, i_nald, i_nast, i_aald, i_aast, i_alen, i_new, i_newa, i_newq, i_math, i_oini, i_iret, i_zret, i_aret, i_vret, z_fit, List.getElem?_cons_zero, List.getElem?_cons_succ, List.set_cons_zero, List.set_cons_succ, Nat.reduceAdd, Nat.reduceLT, Nat.reduceLeDiff, Nat.reduceEqDiff, Nat.zero_lt_succ, Value.category, true_and, or_true, true_or, and_true, false_implies, true_implies, not_false_eq_true, not_true_eq_false, List.map_cons, List.map_nil, List.sum_cons, List.sum_nil, va_up_eq, bx_uu, va_up_lit, List.length_cons, List.length_nil, List.drop_succ_cons, List.drop_zero, Option.toList_some, Option.toList_none, List.cons_append, List.nil_append, o, a16, a43, v0, c0, v1, c1, f0, f1, x3, x4, y3, y4, k1, k8]))
    refine fail (fun v Z z => ?_)
    obtain ⟨-, σ0, σ1, z0, z1, -, -, -, -, -, -, z2, -⟩ := z
    cases g1.symm.trans z1
    exact k8 ((hT.kd ht1 8).mpr (by rw [d1, z2]; rfl))
  obtain ⟨x, y, z, hx, hy, hz, b18, b19, b20, ed⟩ := hT.row8 ht1 k8
  have p3 : vp_in (nI x) 1200 := vp_in_nI (by omega) (by decide)
  have p4 : (nI x).toNatClampNeg = x := nI_clamp (by omega)
  have r3 : vp_in (nI y) 1200 := vp_in_nI (by omega) (by decide)
  have r4 : (nI y).toNatClampNeg = y := nI_clamp (by omega)
  have s3 : vp_in (nI z) 1200 := vp_in_nI (by omega) (by decide)
  have s4 : (nI z).toNatClampNeg = z := nI_clamp (by omega)
  have dt0 := hT.row1 ht0 k1
  -- what an accepted message asks of the rows
  have acc : ∀ v Z, accC l (V s).1 (V s).2.1 (V s).2.2 v Z → v = A 17 t0 ∧ A 17 t1 = v ∧ den x = rkT (V s).1 (V s).2.1 ∧ den y = tN 0 ∧ tkd (den z) = 1 ∧ ¬ v < 0 ∧ ¬ v ≤ (V s).1 13 - 8 ∧ (V s).2.2 v.toNatClampNeg = 0 := by
    rintro v Z ⟨-, σ0, σ1, z0, z1, z2, z3, z4, z5, z6, z7, z8, z9⟩
    cases g0.symm.trans z0
    cases g1.symm.trans z1
    have e := nd_inj (ed.symm.trans (d1.trans z8))
    have ev : v = A 17 t0 := by rw [← z3, ← d0, dt0, tv_N]
    refine ⟨ev, i32_inj e.2.1, e.2.2.2.1, e.2.2.2.2.1, ?_, z4, z6, z7⟩
    rw [e.2.2.2.2.2]
    exact z9
  have rkx : ∀ v Z, accC l (V s).1 (V s).2.1 (V s).2.2 v Z → A 16 x = 7 ∧ A 18 x = nI yc ∧ A 17 x = (if (V s).1 1 = 0 then 1 else 2) := by
    intro v Z h
    have hd := (acc v Z h).2.2.1
    have k7 : A 16 x = 7 := (hT.kd (by omega) 7).mpr (by rw [hd]; rfl)
    obtain ⟨x', hx', e18, e⟩ := hT.row7 (by omega) k7
    have e := nd_inj (e.symm.trans hd)
    refine ⟨k7, ?_, ?_⟩
    · rw [e18, hT.2.2 x' yc (by omega) hyc (e.2.2.2.1.trans edc.symm)]
    · apply i32_inj
      rw [e.2.1]
      split <;> rfl
  by_cases a1 : A 16 x = 7
  rotate_left
  · (repeat (refine zS_one rfl ?_; simp (disch := (first | decide | assumption | omega)) only [i_push, i_null, i_ild, i_ald, i_ist, i_ast, i_inc, i_bin, i_div, i_un, i_dup, i_pop, i_dup2, i_if, i_icmp, i_nul, i_nnl, i_goto, i_getf, i_putf, i_gets, i_nald, i_nast, i_aald, i_aast, i_alen, i_new, i_newa, i_newq, i_math, i_oini, i_iret, i_zret, i_aret, i_vret, z_fit, List.getElem?_cons_zero, List.getElem?_cons_succ, List.set_cons_zero, List.set_cons_succ, Nat.reduceAdd, Nat.reduceLT, Nat.reduceLeDiff, Nat.reduceEqDiff, Nat.zero_lt_succ, Value.category, true_and, or_true, true_or, and_true, false_implies, true_implies, not_false_eq_true, not_true_eq_false, List.map_cons, List.map_nil, List.sum_cons, List.sum_nil, va_up_eq, bx_uu, va_up_lit, List.length_cons, List.length_nil, List.drop_succ_cons, List.drop_zero, Option.toList_some, Option.toList_none, List.cons_append, List.nil_append, o, a16, a17, a18, a19, a20, a43, v0, c0, v1, c1, f0, f1, x3, x4, y3, y4, k1, k8, b18, b19, b20, p3, p4, a1]))
    exact fail (fun v Z h => a1 (rkx v Z h).1)
  by_cases a2 : A 18 x = nI yc
  rotate_left
  · (repeat (refine zS_one rfl ?_; simp (disch := (first | decide | assumption | omega)) only [i_push, i_null, i_ild, i_ald, i_ist, i_ast, i_inc, i_bin, i_div, i_un, i_dup, i_pop, i_dup2, i_if, i_icmp, i_nul, i_nnl, i_goto, i_getf, i_putf, i_gets, i_nald, i_nast, i_aald, i_aast, i_alen, i_new, i_newa, i_newq, i_math, i_oini, i_iret, i_zret, i_aret, i_vret, z_fit, List.getElem?_cons_zero, List.getElem?_cons_succ, List.set_cons_zero, List.set_cons_succ, Nat.reduceAdd, Nat.reduceLT, Nat.reduceLeDiff, Nat.reduceEqDiff, Nat.zero_lt_succ, Value.category, true_and, or_true, true_or, and_true, false_implies, true_implies, not_false_eq_true, not_true_eq_false, List.map_cons, List.map_nil, List.sum_cons, List.sum_nil, va_up_eq, bx_uu, va_up_lit, List.length_cons, List.length_nil, List.drop_succ_cons, List.drop_zero, Option.toList_some, Option.toList_none, List.cons_append, List.nil_append, o, a16, a17, a18, a19, a20, a32, a43, v0, c0, v1, c1, f0, f1, x3, x4, y3, y4, w3, w4, k1, k8, b18, b19, b20, p3, p4, a1, a2, e32]))
    exact fail (fun v Z h => a2 (rkx v Z h).2.1)
  -- behind the role's number
  have mid : ∀ w : Int32, w = (if (V s).1 1 = 0 then 1 else 2) → zS (zMt zTab sc (d + 1), (0, 0), sc) k_Mo_accepts P (140, [some (.ref 15), some (.int (nI s)), some (.int (nI t1)), some (.int (A 17 t0)), some (.int (nI x)), some (.int (nI y)), some (.int (nI z)), none, none, none], [.int w, .int (A 17 x)], h0, 0, 0) := by
    intro w hw
    by_cases a3 : A 17 x = w
    rotate_left
    · (repeat (refine zS_one rfl ?_; simp (disch := (first | decide | assumption | omega)) only [i_push, i_null, i_ild, i_ald, i_ist, i_ast, i_inc, i_bin, i_div, i_un, i_dup, i_pop, i_dup2, i_if, i_icmp, i_nul, i_nnl, i_goto, i_getf, i_putf, i_gets, i_nald, i_nast, i_aald, i_aast, i_alen, i_new, i_newa, i_newq, i_math, i_oini, i_iret, i_zret, i_aret, i_vret, z_fit, List.getElem?_cons_zero, List.getElem?_cons_succ, List.set_cons_zero, List.set_cons_succ, Nat.reduceAdd, Nat.reduceLT, Nat.reduceLeDiff, Nat.reduceEqDiff, Nat.zero_lt_succ, Value.category, true_and, or_true, true_or, and_true, false_implies, true_implies, not_false_eq_true, not_true_eq_false, List.map_cons, List.map_nil, List.sum_cons, List.sum_nil, va_up_eq, bx_uu, va_up_lit, List.length_cons, List.length_nil, List.drop_succ_cons, List.drop_zero, Option.toList_some, Option.toList_none, List.cons_append, List.nil_append, a3]))
      exact fail (fun v Z h => a3 (hw ▸ (rkx v Z h).2.2))
    by_cases a4 : A 17 t1 = A 17 t0
    rotate_left
    · (repeat (refine zS_one rfl ?_; simp (disch := (first | decide | assumption | omega)) only [i_push, i_null, i_ild, i_ald, i_ist, i_ast, i_inc, i_bin, i_div, i_un, i_dup, i_pop, i_dup2, i_if, i_icmp, i_nul, i_nnl, i_goto, i_getf, i_putf, i_gets, i_nald, i_nast, i_aald, i_aast, i_alen, i_new, i_newa, i_newq, i_math, i_oini, i_iret, i_zret, i_aret, i_vret, z_fit, List.getElem?_cons_zero, List.getElem?_cons_succ, List.set_cons_zero, List.set_cons_succ, Nat.reduceAdd, Nat.reduceLT, Nat.reduceLeDiff, Nat.reduceEqDiff, Nat.zero_lt_succ, Value.category, true_and, or_true, true_or, and_true, false_implies, true_implies, not_false_eq_true, not_true_eq_false, List.map_cons, List.map_nil, List.sum_cons, List.sum_nil, va_up_eq, bx_uu, va_up_lit, List.length_cons, List.length_nil, List.drop_succ_cons, List.drop_zero, Option.toList_some, Option.toList_none, List.cons_append, List.nil_append, o, a17, y3, y4, a3, a4, q10]))
      exact fail (fun v Z h => a4 ((acc v Z h).2.1.trans (acc v Z h).1))
    by_cases a5 : A 16 y = 1
    rotate_left
    · (repeat (refine zS_one rfl ?_; simp (disch := (first | decide | assumption | omega)) only [i_push, i_null, i_ild, i_ald, i_ist, i_ast, i_inc, i_bin, i_div, i_un, i_dup, i_pop, i_dup2, i_if, i_icmp, i_nul, i_nnl, i_goto, i_getf, i_putf, i_gets, i_nald, i_nast, i_aald, i_aast, i_alen, i_new, i_newa, i_newq, i_math, i_oini, i_iret, i_zret, i_aret, i_vret, z_fit, List.getElem?_cons_zero, List.getElem?_cons_succ, List.set_cons_zero, List.set_cons_succ, Nat.reduceAdd, Nat.reduceLT, Nat.reduceLeDiff, Nat.reduceEqDiff, Nat.zero_lt_succ, Value.category, true_and, or_true, true_or, and_true, false_implies, true_implies, not_false_eq_true, not_true_eq_false, List.map_cons, List.map_nil, List.sum_cons, List.sum_nil, va_up_eq, bx_uu, va_up_lit, List.length_cons, List.length_nil, List.drop_succ_cons, List.drop_zero, Option.toList_some, Option.toList_none, List.cons_append, List.nil_append, o, a16, a17, y3, y4, r3, r4, a3, a4, a5, q10]))
      exact fail (fun v Z h => a5 ((hT.kd (by omega) 1).mpr (by rw [(acc v Z h).2.2.2.1]; rfl)))
    by_cases a6 : A 17 y = 0
    rotate_left
    · (repeat (refine zS_one rfl ?_; simp (disch := (first | decide | assumption | omega)) only [i_push, i_null, i_ild, i_ald, i_ist, i_ast, i_inc, i_bin, i_div, i_un, i_dup, i_pop, i_dup2, i_if, i_icmp, i_nul, i_nnl, i_goto, i_getf, i_putf, i_gets, i_nald, i_nast, i_aald, i_aast, i_alen, i_new, i_newa, i_newq, i_math, i_oini, i_iret, i_zret, i_aret, i_vret, z_fit, List.getElem?_cons_zero, List.getElem?_cons_succ, List.set_cons_zero, List.set_cons_succ, Nat.reduceAdd, Nat.reduceLT, Nat.reduceLeDiff, Nat.reduceEqDiff, Nat.zero_lt_succ, Value.category, true_and, or_true, true_or, and_true, false_implies, true_implies, not_false_eq_true, not_true_eq_false, List.map_cons, List.map_nil, List.sum_cons, List.sum_nil, va_up_eq, bx_uu, va_up_lit, List.length_cons, List.length_nil, List.drop_succ_cons, List.drop_zero, Option.toList_some, Option.toList_none, List.cons_append, List.nil_append, o, a16, a17, y3, y4, r3, r4, a3, a4, a5, a6, q10]))
      refine fail (fun v Z h => a6 ?_)
      have := (hT.row1 (by omega) a5).symm.trans (acc v Z h).2.2.2.1
      exact i32_inj (nd_inj this).2.1
    by_cases a7 : A 16 z = 1
    rotate_left
    · (repeat (refine zS_one rfl ?_; simp (disch := (first | decide | assumption | omega)) only [i_push, i_null, i_ild, i_ald, i_ist, i_ast, i_inc, i_bin, i_div, i_un, i_dup, i_pop, i_dup2, i_if, i_icmp, i_nul, i_nnl, i_goto, i_getf, i_putf, i_gets, i_nald, i_nast, i_aald, i_aast, i_alen, i_new, i_newa, i_newq, i_math, i_oini, i_iret, i_zret, i_aret, i_vret, z_fit, List.getElem?_cons_zero, List.getElem?_cons_succ, List.set_cons_zero, List.set_cons_succ, Nat.reduceAdd, Nat.reduceLT, Nat.reduceLeDiff, Nat.reduceEqDiff, Nat.zero_lt_succ, Value.category, true_and, or_true, true_or, and_true, false_implies, true_implies, not_false_eq_true, not_true_eq_false, List.map_cons, List.map_nil, List.sum_cons, List.sum_nil, va_up_eq, bx_uu, va_up_lit, List.length_cons, List.length_nil, List.drop_succ_cons, List.drop_zero, Option.toList_some, Option.toList_none, List.cons_append, List.nil_append, o, a16, a17, y3, y4, r3, r4, s3, s4, a3, a4, a5, a6, a7, q10]))
      exact fail (fun v Z h => a7 ((hT.kd (by omega) 1).mpr (acc v Z h).2.2.2.2.1))
    by_cases a8 : A 17 t0 < 0
    · (repeat (refine zS_one rfl ?_; simp (disch := (first | decide | assumption | omega)) only [i_push, i_null, i_ild, i_ald, i_ist, i_ast, i_inc, i_bin, i_div, i_un, i_dup, i_pop, i_dup2, i_if, i_icmp, i_nul, i_nnl, i_goto, i_getf, i_putf, i_gets, i_nald, i_nast, i_aald, i_aast, i_alen, i_new, i_newa, i_newq, i_math, i_oini, i_iret, i_zret, i_aret, i_vret, z_fit, List.getElem?_cons_zero, List.getElem?_cons_succ, List.set_cons_zero, List.set_cons_succ, Nat.reduceAdd, Nat.reduceLT, Nat.reduceLeDiff, Nat.reduceEqDiff, Nat.zero_lt_succ, Value.category, true_and, or_true, true_or, and_true, false_implies, true_implies, not_false_eq_true, not_true_eq_false, List.map_cons, List.map_nil, List.sum_cons, List.sum_nil, va_up_eq, bx_uu, va_up_lit, List.length_cons, List.length_nil, List.drop_succ_cons, List.drop_zero, Option.toList_some, Option.toList_none, List.cons_append, List.nil_append, o, a16, a17, y3, y4, r3, r4, s3, s4, a3, a4, a5, a6, a7, a8, q10]))
      refine fail (fun v Z h => ?_)
      have := (acc v Z h).2.2.2.2.2.1
      rw [(acc v Z h).1] at this
      exact this a8
    -- all is right: the counter
    have dx : den x = rkT (V s).1 (V s).2.1 := by
      obtain ⟨x', hx', e18, e⟩ := hT.row7 (by omega) a1
      have exy : x' = yc := nI_inj (by omega) (by omega) (e18.symm.trans a2)
      rw [e, exy, edc, a3, hw]
      unfold rkT
      split <;> rfl
    have dy : den y = tN 0 := by rw [hT.row1 (by omega) a5, a6]
    have ht1' : τ1 = nd 8 (A 17 t0).toInt 0 (rkT (V s).1 (V s).2.1) (tN 0) (den z) := by rw [← d1, ed, a4, dx, dy]
    have hz1 : tkd (den z) = 1 := (hT.kd (by omega) 1).mp a7
    have hc60 := hb (A 17 t0) (den z) (by rw [← ht1']; exact g1)
    obtain ⟨c, hc31, ec⟩ := nI_of a8
    rw [ec, nI_toInt hc31] at hc60
    have hc : c < 60 := by omega
    have hcl : (nI c).toNatClampNeg = c := nI_clamp (by omega)
    rw [ec] at a4 a8
    have c59 : ¬ (60 : Int32) ≤ nI c := nI_ge (a := c) (b := 60) hc (by decide)
    have yes : ¬ nI c ≤ (V s).1 13 - 8 → (V s).2.2 c = 0 → accC l (V s).1 (V s).2.1 (V s).2.2 (nI c) (den z) := fun z6 z7 => ⟨hl, τ0, τ1, g0, g1, by rw [← d0]; exact (hT.kd ht0 1).mp k1, by rw [← d0, dt0, tv_N, ec], a8, c59, z6, by rw [hcl]; exact z7, by rw [← ec]; exact ht1', hz1⟩
    have vz : A 17 z = tv (den z) := hT.vl (by omega) (Or.inl hz1)
    have us : ∀ (f : Nat → Int32) (x : Int32), upd f s x s = x := fun f x => upd_s
    have fin : ∀ (W1 W2 top : Int32) (m9 : Option Value), ¬ nI c ≤ (V s).1 13 - 8 → (V s).2.2 c = 0 → wnd W2 top (upd (V s).2.2 c 1) → top = (if (V s).1 13 < nI c then nI c else (V s).1 13) → zS (zMt zTab sc (d + 1), (0, 0), sc) k_Mo_accepts P (379, [some (.ref 15), some (.int (nI s)), some (.int (nI t1)), some (.int (nI c)), some (.int (nI x)), some (.int (nI y)), some (.int (nI z)), some (.int 1), some (.int 0), m9], [], (va_up (va_up (va_up h0.1 42 (.inl (0, 12, .inl (upd (A 42) s W1)))) 41 (.inl (0, 12, .inl (upd (A 41) s top)))) 42 (.inl (0, 12, .inl (upd (upd (A 42) s W1) s W2))), h0.2), 0, 0) := by
      intro W1 W2 top m9 z1 z2 z3 z4
      have hW1 := ((hW.put 42 (upd (A 42) s W1) (kd := 0) (ln := 12) (by decide) (by decide) rfl rfl).put 41 (upd (A 41) s top) (kd := 0) (ln := 12) (by decide) (by decide) rfl rfl).put 42 (upd (upd (A 42) s W1) s W2) (kd := 0) (ln := 12) (by decide) (by decide) rfl rfl
      (repeat (refine zS_one rfl ?_; simp (disch := (first | decide | assumption | omega)) only [i_push, i_null, i_ild, i_ald, i_ist, i_ast, i_inc, i_bin, i_div, i_un, i_dup, i_pop, i_dup2, i_if, i_icmp, i_nul, i_nnl, i_goto, i_getf, i_putf, i_gets, i_nald, i_nast, i_aald, i_aast, i_alen, i_new, i_newa, i_newq, i_math, i_oini, i_iret, i_zret, i_aret, i_vret, z_fit, List.getElem?_cons_zero, List.getElem?_cons_succ, List.set_cons_zero, List.set_cons_succ, Nat.reduceAdd, Nat.reduceLT, Nat.reduceLeDiff, Nat.reduceEqDiff, Nat.zero_lt_succ, Value.category, true_and, or_true, true_or, and_true, false_implies, true_implies, not_false_eq_true, not_true_eq_false, List.map_cons, List.map_nil, List.sum_cons, List.sum_nil, va_up_eq, bx_uu, va_up_lit, List.length_cons, List.length_nil, List.drop_succ_cons, List.drop_zero, Option.toList_some, Option.toList_none, List.cons_append, List.nil_append, o, a17, s3, s4, vz]))
      (try refine zS_one rfl ?_)
      refine r_callV (c_took sc d hW1 (s := s) (by omega) (tv (den z))) rfl rfl rfl rfl hW1.f (Nat.le_refl _) (Nat.le_refl _) ?_
      rintro r h2 ⟨rfl, hW2, hf2⟩
      (repeat (refine zS_one rfl ?_; simp (disch := (first | decide | assumption | omega)) only [i_push, i_null, i_ild, i_ald, i_ist, i_ast, i_inc, i_bin, i_div, i_un, i_dup, i_pop, i_dup2, i_if, i_icmp, i_nul, i_nnl, i_goto, i_getf, i_putf, i_gets, i_nald, i_nast, i_aald, i_aast, i_alen, i_new, i_newa, i_newq, i_math, i_oini, i_iret, i_zret, i_aret, i_vret, z_fit, List.getElem?_cons_zero, List.getElem?_cons_succ, List.set_cons_zero, List.set_cons_succ, Nat.reduceAdd, Nat.reduceLT, Nat.reduceLeDiff, Nat.reduceEqDiff, Nat.zero_lt_succ, Value.category, true_and, or_true, true_or, and_true, false_implies, true_implies, not_false_eq_true, not_true_eq_false, List.map_cons, List.map_nil, List.sum_cons, List.sum_nil, va_up_eq, bx_uu, va_up_lit, List.length_cons, List.length_nil, List.drop_succ_cons, List.drop_zero, Option.toList_some, Option.toList_none, List.cons_append, List.nil_append]))
      have hsv := acc_sV hv z3
      have tq : ∀ p t, t ≠ s → va_up (va_up (va_up A 42 (upd (A 42) s W1)) 41 (upd (A 41) s top)) 42 (upd (upd (A 42) s W1) s W2) p t = A p t := by
        intro p t hts
        unfold va_up
        split
        · rename_i z; subst z; rw [upd_n hts, upd_n hts]
        · split
          · rename_i z; subst z; rw [upd_n hts]
          · rfl
      have to : ∀ p, p ≠ 41 → p ≠ 42 → va_up (va_up (va_up A 42 (upd (A 42) s W1)) 41 (upd (A 41) s top)) 42 (upd (upd (A 42) s W1) s W2) p = A p := fun p q1 q2 => by rw [va_up_lit _ _ _ _ q2, va_up_lit _ _ _ _ q1, va_up_lit _ _ _ _ q2]
      have hsv2 : sV (va_up (va_up (va_up A 42 (upd (A 42) s W1)) 41 (upd (A 41) s top)) 42 (upd (upd (A 42) s W1) s W2)) s n den (topI (V s).1 (nI c), (V s).2.1, upd (V s).2.2 c 1) := by
        have : topI (V s).1 (nI c) = va_up (V s).1 13 top := by rw [z4]; rfl
        rw [this]
        refine hsv.ext (c := 0) exM.rf (fun p q1 q2 => ?_)
        by_cases y2 : p = 42
        · subst y2; rw [va_up_eq, va_up_eq, upd_s, upd_s]
        · by_cases y1 : p = 41
          · subst y1; rw [va_up_lit _ _ _ _ y2, va_up_eq, va_up_lit _ _ _ _ y2, va_up_eq]
          · rw [to p y1 y2, va_up_lit _ _ _ _ y2, va_up_lit _ _ _ _ y1]
      have tk : ∀ p, p ≠ 38 → p ≠ 39 → p ≠ 41 → p ≠ 42 → tkA (va_up (va_up (va_up A 42 (upd (A 42) s W1)) 41 (upd (A 41) s top)) 42 (upd (upd (A 42) s W1) s W2)) s (tv (den z)) p = A p := by
        intro p q1 q2 q3 q4
        unfold tkA
        rw [va_up_lit _ _ _ _ q2, va_up_lit _ _ _ _ q1, to p q3 q4]
      have tks : ∀ p t, t ≠ s → tkA (va_up (va_up (va_up A 42 (upd (A 42) s W1)) 41 (upd (A 41) s top)) 42 (upd (upd (A 42) s W1) s W2)) s (tv (den z)) p t = A p t := by
        intro p t hts
        unfold tkA
        by_cases y1 : p = 39
        · subst y1; rw [va_up_eq, upd_n hts, tq 39 t hts]
        · rw [va_up_lit _ _ _ _ y1]
          by_cases y2 : p = 38
          · subst y2; rw [va_up_eq, upd_n hts, tq 38 t hts]
          · rw [va_up_lit _ _ _ _ y2, tq p t hts]
      have hMO : MO h2 ns n made den G m ps (va_up V s (noteI (topI (V s).1 (nI c)) (tv (den z)), (V s).2.1, upd (V s).2.2 c 1)) S (tkA (va_up (va_up (va_up A 42 (upd (A 42) s W1)) 41 (upd (A 41) s top)) 42 (upd (upd (A 42) s W1) s W2)) s (tv (den z))) := by
        obtain ⟨-, hS3, hbb, hg, hr, hvv, hzz⟩ := hM
        refine ⟨hW2, hS3, hbb, fun j hj => ?_, fun i hi => ?_, fun t ht' => ?_, fun p t q1 q2 q3 q4 => ?_⟩
        · rw [tk 24 (by decide) (by decide) (by decide) (by decide)]; exact hg j hj
        · unfold mrow
          rw [tk 22 (by decide) (by decide) (by decide) (by decide), tk 23 (by decide) (by decide) (by decide) (by decide)]
          exact hr i hi
        · by_cases q : t = s
          · subst q
            rw [va_up_eq]
            exact took_sV hsv2
          · rw [va_up_lit _ _ _ _ q]
            exact (hvv t ht').ext (c := 0) exM.rf (fun p _ _ => tks p t q)
        · rw [tks p t (by omega)]; exact hzz p t q1 q2 q3 q4
      have hF : frN h0 h2 := (((frN.put (by decide) (by decide)).tr (frN.put (by decide) (by decide))).tr (frN.put (by decide) (by decide))).tr hf2
      have hMO2 : ∀ x, x = c → MO h2 ns n made den G m ps (va_up V s (noteI (topI (V s).1 (nI c)) (tv (den z)), (V s).2.1, upd (V s).2.2 x 1)) S (tkA (va_up (va_up (va_up A 42 (upd (A 42) s W1)) 41 (upd (A 41) s top)) 42 (upd (upd (A 42) s W1) s W2)) s (tv (den z))) := fun x hx => by rw [hx]; exact hMO
      exact hP _ _ ⟨hF, Or.inl ⟨nI c, den z, _, _, yes z1 z2, rfl, hMO2 _ hcl⟩⟩
    rw [ec]
    by_cases q1 : nI c ≤ (V s).1 13
    · obtain ⟨o1, o2⟩ := wnd_old ew hc q1
      have q6 : ¬ (V s).1 13 < nI c := fun z => by
        rw [Int32.lt_iff_toInt_lt] at z
        rw [Int32.le_iff_toInt_le] at q1
        omega
      by_cases q2 : 7 < (V s).1 13 - nI c
      · (repeat (refine zS_one rfl ?_; simp (disch := (first | decide | assumption | omega)) only [i_push, i_null, i_ild, i_ald, i_ist, i_ast, i_inc, i_bin, i_div, i_un, i_dup, i_pop, i_dup2, i_if, i_icmp, i_nul, i_nnl, i_goto, i_getf, i_putf, i_gets, i_nald, i_nast, i_aald, i_aast, i_alen, i_new, i_newa, i_newq, i_math, i_oini, i_iret, i_zret, i_aret, i_vret, z_fit, List.getElem?_cons_zero, List.getElem?_cons_succ, List.set_cons_zero, List.set_cons_succ, Nat.reduceAdd, Nat.reduceLT, Nat.reduceLeDiff, Nat.reduceEqDiff, Nat.zero_lt_succ, Value.category, true_and, or_true, true_or, and_true, false_implies, true_implies, not_false_eq_true, not_true_eq_false, List.map_cons, List.map_nil, List.sum_cons, List.sum_nil, va_up_eq, bx_uu, va_up_lit, List.length_cons, List.length_nil, List.drop_succ_cons, List.drop_zero, Option.toList_some, Option.toList_none, List.cons_append, List.nil_append, o, a16, a17, a41, a42, y3, y4, r3, r4, s3, s4, w3, w4, a3, a4, a5, a6, a7, a8, q10, e41, q1, q2, q6]))
        refine fail (fun v Z h => ?_)
        have h' := acc v Z h
        have := h'.2.2.2.2.2.2.1
        rw [h'.1, ec] at this
        exact this (o1 q2)
      obtain ⟨o3, o4, o5⟩ := o2 q2
      by_cases q3 : (A 42 s >>> (((V s).1 13 - nI c) &&& 31)) &&& 1 = 1
      · (repeat (refine zS_one rfl ?_; simp (disch := (first | decide | assumption | omega)) only [i_push, i_null, i_ild, i_ald, i_ist, i_ast, i_inc, i_bin, i_div, i_un, i_dup, i_pop, i_dup2, i_if, i_icmp, i_nul, i_nnl, i_goto, i_getf, i_putf, i_gets, i_nald, i_nast, i_aald, i_aast, i_alen, i_new, i_newa, i_newq, i_math, i_oini, i_iret, i_zret, i_aret, i_vret, z_fit, List.getElem?_cons_zero, List.getElem?_cons_succ, List.set_cons_zero, List.set_cons_succ, Nat.reduceAdd, Nat.reduceLT, Nat.reduceLeDiff, Nat.reduceEqDiff, Nat.zero_lt_succ, Value.category, true_and, or_true, true_or, and_true, false_implies, true_implies, not_false_eq_true, not_true_eq_false, List.map_cons, List.map_nil, List.sum_cons, List.sum_nil, va_up_eq, bx_uu, va_up_lit, List.length_cons, List.length_nil, List.drop_succ_cons, List.drop_zero, Option.toList_some, Option.toList_none, List.cons_append, List.nil_append, o, a16, a17, a41, a42, y3, y4, r3, r4, s3, s4, w3, w4, a3, a4, a5, a6, a7, a8, q10, e41, q1, q2, q3, q6]))
        refine fail (fun v Z h => ?_)
        have h' := acc v Z h
        have := h'.2.2.2.2.2.2.2
        rw [h'.1, ec, hcl] at this
        exact o4 q3 this
      obtain ⟨o6, o7⟩ := o5 q3
      have q5 : (0 : Int32) ≤ 8 := by decide
      have := fin ((A 42 s <<< ((0 : Int32) &&& 31)) &&& 255) _ ((V s).1 13) (some (.int 0)) o3 o6 o7 (by rw [if_neg q6])
      (iterate 125 (refine zS_one rfl ?_; simp (disch := (first | decide | assumption | omega)) only [i_push, i_null, i_ild, i_ald, i_ist, i_ast, i_inc, i_bin, i_div, i_un, i_dup, i_pop, i_dup2, i_if, i_icmp, i_nul, i_nnl, i_goto, i_getf, i_putf, i_gets, i_nald, i_nast, i_aald, i_aast, i_alen, i_new, i_newa, i_newq, i_math, i_oini, i_iret, i_zret, i_aret, i_vret, z_fit, List.getElem?_cons_zero, List.getElem?_cons_succ, List.set_cons_zero, List.set_cons_succ, Nat.reduceAdd, Nat.reduceLT, Nat.reduceLeDiff, Nat.reduceEqDiff, Nat.zero_lt_succ, Value.category, true_and, or_true, true_or, and_true, false_implies, true_implies, not_false_eq_true, not_true_eq_false, List.map_cons, List.map_nil, List.sum_cons, List.sum_nil, va_up_eq, bx_uu, va_up_lit, List.length_cons, List.length_nil, List.drop_succ_cons, List.drop_zero, Option.toList_some, Option.toList_none, List.cons_append, List.nil_append, o, a16, a17, a41, a42, y3, y4, r3, r4, s3, s4, w3, w4, a3, a4, a5, a6, a7, a8, q10, e41, q1, q2, q3, q5, q6, us]))
      exact this
    · obtain ⟨o1, o2, o3, o4⟩ := wnd_new ew hc q1
      have q6 : (V s).1 13 < nI c := by
        rw [Int32.lt_iff_toInt_lt]
        rw [Int32.le_iff_toInt_le] at q1
        omega
      by_cases q4 : nI c - (V s).1 13 ≤ 8
      · have := fin ((A 42 s <<< ((nI c - (V s).1 13) &&& 31)) &&& 255) _ (nI c) (some (.int (nI c - (V s).1 13))) o2 o1 (o3 q4) (by rw [if_pos q6])
        (iterate 106 (refine zS_one rfl ?_; simp (disch := (first | decide | assumption | omega)) only [i_push, i_null, i_ild, i_ald, i_ist, i_ast, i_inc, i_bin, i_div, i_un, i_dup, i_pop, i_dup2, i_if, i_icmp, i_nul, i_nnl, i_goto, i_getf, i_putf, i_gets, i_nald, i_nast, i_aald, i_aast, i_alen, i_new, i_newa, i_newq, i_math, i_oini, i_iret, i_zret, i_aret, i_vret, z_fit, List.getElem?_cons_zero, List.getElem?_cons_succ, List.set_cons_zero, List.set_cons_succ, Nat.reduceAdd, Nat.reduceLT, Nat.reduceLeDiff, Nat.reduceEqDiff, Nat.zero_lt_succ, Value.category, true_and, or_true, true_or, and_true, false_implies, true_implies, not_false_eq_true, not_true_eq_false, List.map_cons, List.map_nil, List.sum_cons, List.sum_nil, va_up_eq, bx_uu, va_up_lit, List.length_cons, List.length_nil, List.drop_succ_cons, List.drop_zero, Option.toList_some, Option.toList_none, List.cons_append, List.nil_append, o, a16, a17, a41, a42, y3, y4, r3, r4, s3, s4, w3, w4, a3, a4, a5, a6, a7, a8, q10, e41, q1, q4, q6, us]))
        exact this
      · have := fin 0 _ (nI c) (some (.int (nI c - (V s).1 13))) o2 o1 (o4 q4) (by rw [if_pos q6])
        (iterate 100 (refine zS_one rfl ?_; simp (disch := (first | decide | assumption | omega)) only [i_push, i_null, i_ild, i_ald, i_ist, i_ast, i_inc, i_bin, i_div, i_un, i_dup, i_pop, i_dup2, i_if, i_icmp, i_nul, i_nnl, i_goto, i_getf, i_putf, i_gets, i_nald, i_nast, i_aald, i_aast, i_alen, i_new, i_newa, i_newq, i_math, i_oini, i_iret, i_zret, i_aret, i_vret, z_fit, List.getElem?_cons_zero, List.getElem?_cons_succ, List.set_cons_zero, List.set_cons_succ, Nat.reduceAdd, Nat.reduceLT, Nat.reduceLeDiff, Nat.reduceEqDiff, Nat.zero_lt_succ, Value.category, true_and, or_true, true_or, and_true, false_implies, true_implies, not_false_eq_true, not_true_eq_false, List.map_cons, List.map_nil, List.sum_cons, List.sum_nil, va_up_eq, bx_uu, va_up_lit, List.length_cons, List.length_nil, List.drop_succ_cons, List.drop_zero, Option.toList_some, Option.toList_none, List.cons_append, List.nil_append, o, a16, a17, a41, a42, y3, y4, r3, r4, s3, s4, w3, w4, a3, a4, a5, a6, a7, a8, q10, e41, q1, q4, q6, us]))
        exact this
  rcases hI.2.1 with i0 | i1
  · have := mid 1 (by rw [if_pos i0])
    have e26' : A 26 s = 0 := e26.trans i0
    (iterate 77 (refine zS_one rfl ?_; simp (disch := (first | decide | assumption | omega)) only [i_push, i_null, i_ild, i_ald, i_ist, i_ast, i_inc, i_bin, i_div, i_un, i_dup, i_pop, i_dup2, i_if, i_icmp, i_nul, i_nnl, i_goto, i_getf, i_putf, i_gets, i_nald, i_nast, i_aald, i_aast, i_alen, i_new, i_newa, i_newq, i_math, i_oini, i_iret, i_zret, i_aret, i_vret, z_fit, List.getElem?_cons_zero, List.getElem?_cons_succ, List.set_cons_zero, List.set_cons_succ, Nat.reduceAdd, Nat.reduceLT, Nat.reduceLeDiff, Nat.reduceEqDiff, Nat.zero_lt_succ, Value.category, true_and, or_true, true_or, and_true, false_implies, true_implies, not_false_eq_true, not_true_eq_false, List.map_cons, List.map_nil, List.sum_cons, List.sum_nil, va_up_eq, bx_uu, va_up_lit, List.length_cons, List.length_nil, List.drop_succ_cons, List.drop_zero, Option.toList_some, Option.toList_none, List.cons_append, List.nil_append, o, a16, a17, a18, a19, a20, a26, a32, a43, v0, c0, v1, c1, f0, f1, x3, x4, y3, y4, w3, w4, k1, k8, b18, b19, b20, p3, p4, a1, a2, e32, e26', q10]))
    exact this
  · have := mid 2 (by rw [if_neg (by rw [i1]; exact q10)])
    have e26' : A 26 s = 1 := e26.trans i1
    (iterate 78 (refine zS_one rfl ?_; simp (disch := (first | decide | assumption | omega)) only [i_push, i_null, i_ild, i_ald, i_ist, i_ast, i_inc, i_bin, i_div, i_un, i_dup, i_pop, i_dup2, i_if, i_icmp, i_nul, i_nnl, i_goto, i_getf, i_putf, i_gets, i_nald, i_nast, i_aald, i_aast, i_alen, i_new, i_newa, i_newq, i_math, i_oini, i_iret, i_zret, i_aret, i_vret, z_fit, List.getElem?_cons_zero, List.getElem?_cons_succ, List.set_cons_zero, List.set_cons_succ, Nat.reduceAdd, Nat.reduceLT, Nat.reduceLeDiff, Nat.reduceEqDiff, Nat.zero_lt_succ, Value.category, true_and, or_true, true_or, and_true, false_implies, true_implies, not_false_eq_true, not_true_eq_false, List.map_cons, List.map_nil, List.sum_cons, List.sum_nil, va_up_eq, bx_uu, va_up_lit, List.length_cons, List.length_nil, List.drop_succ_cons, List.drop_zero, Option.toList_some, Option.toList_none, List.cons_append, List.nil_append, o, a16, a17, a18, a19, a20, a26, a32, a43, v0, c0, v1, c1, f0, f1, x3, x4, y3, y4, w3, w4, k1, k8, b18, b19, b20, p3, p4, a1, a2, e32, e26', q10]))
    exact this
end MOR
