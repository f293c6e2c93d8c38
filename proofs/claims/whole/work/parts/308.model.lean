section MO8
variable {h0 : zH} {S : Nat → Int32} {A : Nat → Nat → Int32} {n s at' : Nat} {den : Nat → zT} {I : Nat → Int32} {Θ : Nat → zT} {l : List zT}
theorem RD.re (hR : RD h0 S A n den s l at' I Θ) {v : Int32} (hv : key20 v) {fs : List Value} (hfs : fs = mF (va_up S 10 v)) : RD (va_up h0.1 15 (.inr (6, fs)), h0.2) (va_up S 10 v) A n den s l at' (va_up I 5 v) Θ := by
  obtain ⟨hV, hB, e13, e14⟩ := hR
  refine ⟨?_, hB.ext (c := 0) exM.rf (va_up_lit _ _ _ _ (by decide)) rfl, (va_up_lit _ _ _ _ (by decide)).trans e13, (va_up_lit _ _ _ _ (by decide)).trans e14⟩
  obtain ⟨hW, z1, z2, z3, z4, z5, ⟨z6, z6a, z6b, z6c⟩, ⟨za, zb, zc, zd⟩, zi⟩ := hV
  refine ⟨hW.fld hfs (va_up_lit _ _ _ _ (by decide)), z1, (va_up_lit _ _ _ _ (by decide)).trans z2, ?_, ?_, ?_, ⟨?_, ?_, ?_, ?_⟩, ⟨?_, ?_, ?_, ?_⟩, ?_⟩
  · rw [va_up_lit _ _ _ _ (by decide)]; exact z3
  · rw [va_up_lit _ _ _ _ (by decide)]; exact z4
  · rw [va_up_lit _ _ _ _ (by decide)]; exact z5
  · rw [va_up_lit _ _ _ _ (by decide), va_up_lit _ _ _ _ (by decide)]; exact z6
  · rw [va_up_lit _ _ _ _ (by decide), va_up_lit _ _ _ _ (by decide)]; exact z6a
  · rw [va_up_eq, va_up_eq]
  · rw [va_up_lit _ _ _ _ (by decide), va_up_lit _ _ _ _ (by decide)]; exact z6c
  · rw [va_up_lit _ _ _ _ (by decide)]; exact za
  · rw [va_up_lit _ _ _ _ (by decide)]; exact zb
  · rw [va_up_lit _ _ _ _ (by decide)]; exact zc
  · rw [va_up_lit _ _ _ _ (by decide)]; exact zd
  · obtain ⟨i0, i1, i2, i3, i4, i5, i7⟩ := zi
    refine ⟨?_, ?_, ?_, ?_, ?_, ?_, ?_⟩
    · rw [va_up_lit _ _ _ _ (by decide)]; exact i0
    · rw [va_up_lit _ _ _ _ (by decide)]; exact i1
    · rw [va_up_lit _ _ _ _ (by decide)]; exact i2
    · rw [va_up_lit _ _ _ _ (by decide)]; exact i3
    · rw [va_up_lit _ _ _ _ (by decide)]; exact i4
    · rw [va_up_eq]; exact hv
    · rw [va_up_lit _ _ _ _ (by decide)]; exact i7
theorem RD.rs (hR : RD h0 S A n den s l at' I Θ) {v : Int32} (hv : key20 v) {fs : List Value} (hfs : fs = mF (va_up S 11 v)) : RD (va_up h0.1 15 (.inr (6, fs)), h0.2) (va_up S 11 v) A n den s l at' (va_up I 4 v) Θ := by
  obtain ⟨hV, hB, e13, e14⟩ := hR
  refine ⟨?_, hB.ext (c := 0) exM.rf (va_up_lit _ _ _ _ (by decide)) rfl, (va_up_lit _ _ _ _ (by decide)).trans e13, (va_up_lit _ _ _ _ (by decide)).trans e14⟩
  obtain ⟨hW, z1, z2, z3, z4, z5, ⟨z6, z6a, z6b, z6c⟩, ⟨za, zb, zc, zd⟩, zi⟩ := hV
  refine ⟨hW.fld hfs (va_up_lit _ _ _ _ (by decide)), z1, (va_up_lit _ _ _ _ (by decide)).trans z2, ?_, ?_, ?_, ⟨?_, ?_, ?_, ?_⟩, ⟨?_, ?_, ?_, ?_⟩, ?_⟩
  · rw [va_up_lit _ _ _ _ (by decide)]; exact z3
  · rw [va_up_lit _ _ _ _ (by decide)]; exact z4
  · rw [va_up_lit _ _ _ _ (by decide)]; exact z5
  · rw [va_up_lit _ _ _ _ (by decide), va_up_lit _ _ _ _ (by decide)]; exact z6
  · rw [va_up_lit _ _ _ _ (by decide), va_up_lit _ _ _ _ (by decide)]; exact z6a
  · rw [va_up_lit _ _ _ _ (by decide), va_up_lit _ _ _ _ (by decide)]; exact z6b
  · rw [va_up_eq, va_up_eq]
  · rw [va_up_lit _ _ _ _ (by decide)]; exact za
  · rw [va_up_lit _ _ _ _ (by decide)]; exact zb
  · rw [va_up_lit _ _ _ _ (by decide)]; exact zc
  · rw [va_up_lit _ _ _ _ (by decide)]; exact zd
  · obtain ⟨i0, i1, i2, i3, i4, i5, i7⟩ := zi
    refine ⟨?_, ?_, ?_, ?_, ?_, ?_, ?_⟩
    · rw [va_up_lit _ _ _ _ (by decide)]; exact i0
    · rw [va_up_lit _ _ _ _ (by decide)]; exact i1
    · rw [va_up_lit _ _ _ _ (by decide)]; exact i2
    · rw [va_up_lit _ _ _ _ (by decide)]; exact i3
    · rw [va_up_eq]; exact hv
    · rw [va_up_lit _ _ _ _ (by decide)]; exact i5
    · rw [va_up_lit _ _ _ _ (by decide)]; exact i7
/-- what one token of a reading leaves -/
def rtQ (h0 : zH) (S : Nat → Int32) (A : Nat → Nat → Int32) (n : Nat) (den : Nat → zT) (s c : Nat) (l : List zT) (o : Option zR3) (h' : zH) : Prop := (∃ q, o = some q ∧ rdQ h0 S A n den s c l q.2.2 q.1 q.2.1 h') ∨ (o = none ∧ faQ h0 S A n den c h')
set_option maxHeartbeats 8000000 in
theorem run_step (sc : Nat × (Nat → Int32)) (d : Nat) (hR : RD h0 S A n den s l at' I Θ) (hn : n + 3 ≤ 1200) {p st i : Nat} (hat : at' ≤ 4) (hi : i < 4) (e25 : A 25 s = nI p) (e35 : A 35 s = nI st) (hr : p * 3 + st ≤ 4) (hst : st < 3) {P : zP} (l3 l4 : Option Value)
    (hk : ∀ h' l3 l4, rtQ h0 S A n den s 3 l (rtok (z_tok ((p * 3 + st) * 4 + i)) l (I, Θ, at')) h' → zS (zMt zTab sc (d + 4), (0, 0), sc) k_Mo_run P (2, [some (.ref 15), some (.int (nI s)), some (.int (nI (i + 1))), l3, l4], [], h', 0, 0)) :
    zS (zMt zTab sc (d + 4), (0, 0), sc) k_Mo_run P (2, [some (.ref 15), some (.int (nI s)), some (.int (nI i)), l3, l4], [], h0, 0, 0) := by
  obtain ⟨hV, hB, e13, e14⟩ := id hR
  have hW := hV.1
  have o := hW.o
  rw [e14] at o
  have hs := hV.2.1
  have h12 := hW.2.2.1
  have a25 := hW.a 25 0 12 (by decide) (by decide) rfl rfl
  have a35 := hW.a 35 0 12 (by decide) (by decide) rfl rfl
  have w3 : vp_in (nI s) 12 := vp_in_nI (by omega) (by decide)
  have w4 : (nI s).toNatClampNeg = s := nI_clamp (by omega)
  have wi : ¬ (4 : Int32) ≤ nI i := by
    rcases (show i = 0 ∨ i = 1 ∨ i = 2 ∨ i = 3 by omega) with rfl | rfl | rfl | rfl <;> decide
  (repeat (refine zS_one rfl ?_; simp (disch := (first | decide | assumption | omega)) only [i_push, i_null, i_ild, i_ald, i_ist, i_ast, i_inc, i_bin, i_div, i_un, i_dup, i_pop, i_dup2, i_if, i_icmp, i_nul, i_nnl, i_goto, i_getf, i_putf, i_gets, i_nald, i_nast, i_aald, i_aast, i_alen, i_new, i_newa, i_newq, i_math, i_oini, i_iret, i_zret, i_aret, i_vret, z_fit, List.getElem?_cons_zero, List.getElem?_cons_succ, List.set_cons_zero, List.set_cons_succ, Nat.reduceAdd, Nat.reduceLT, Nat.reduceLeDiff, Nat.reduceEqDiff, Nat.zero_lt_succ, Value.category, true_and, or_true, true_or, and_true, false_implies, true_implies, not_false_eq_true, not_true_eq_false, List.map_cons, List.map_nil, List.sum_cons, List.sum_nil, va_up_eq, bx_uu, va_up_lit, List.length_cons, List.length_nil, List.drop_succ_cons, List.drop_zero, Option.toList_some, Option.toList_none, List.cons_append, List.nil_append, o, a25, a35, w3, w4, wi, e25, e35]))
  (try refine zS_one rfl ?_)
  refine r_callS (c_token sc (d + 3) _ hr hst hi) rfl rfl rfl rfl (Nat.le_refl _) (Nat.le_refl _) ?_
  rintro r h' ⟨rfl, rfl⟩
  have htok : z_tok ((p * 3 + st) * 4 + i) = 0 ∨ z_tok ((p * 3 + st) * 4 + i) = 1 ∨ z_tok ((p * 3 + st) * 4 + i) = 2 ∨ isMix (z_tok ((p * 3 + st) * 4 + i)) := by
    have : (p * 3 + st) * 4 + i < 20 := by omega
    generalize (p * 3 + st) * 4 + i = j at this
    have hall : ∀ j, j < 20 → (z_tok j = 0 ∨ z_tok j = 1 ∨ z_tok j = 2 ∨ (z_tok j = 3 ∨ z_tok j = 4 ∨ z_tok j = 5 ∨ z_tok j = 6)) := by decide
    exact hall j this
  generalize z_tok ((p * 3 + st) * 4 + i) = tok at hk htok
  have q01 : ¬ (0 : Int32) = 1 := by decide
  have q02 : ¬ (0 : Int32) = 2 := by decide
  have q21 : ¬ (2 : Int32) = 1 := by decide
  have q10 : ¬ (1 : Int32) = 0 := by decide
  have l02 : (0 : Int32) ≤ 2 := by decide
  have hx3 : ∀ {n' : Nat} {den' : Nat → zT} {c : Nat}, exM n den n' den' c → c ≤ 3 → exM n den n' den' 3 := fun hx hc => ⟨hx.1, by have := hx.2.1; omega, hx.2.2⟩
  rcases htok with rfl | rfl | rfl | hm
  · have := hk h' (some (.int 0)) l4 (Or.inl ⟨(I, Θ, at'), by unfold rtok; rw [if_neg (by decide), if_pos rfl], n, den, S, A, hR, exM.rf, fun _ _ => rfl, fun _ _ => rfl, frN.rf⟩)
    (iterate 12 (refine zS_one rfl ?_; simp (disch := (first | decide | assumption | omega)) only [i_push, i_null, i_ild, i_ald, i_ist, i_ast, i_inc, i_bin, i_div, i_un, i_dup, i_pop, i_dup2, i_if, i_icmp, i_nul, i_nnl, i_goto, i_getf, i_putf, i_gets, i_nald, i_nast, i_aald, i_aast, i_alen, i_new, i_newa, i_newq, i_math, i_oini, i_iret, i_zret, i_aret, i_vret, z_fit, List.getElem?_cons_zero, List.getElem?_cons_succ, List.set_cons_zero, List.set_cons_succ, Nat.reduceAdd, Nat.reduceLT, Nat.reduceLeDiff, Nat.reduceEqDiff, Nat.zero_lt_succ, Value.category, true_and, or_true, true_or, and_true, false_implies, true_implies, not_false_eq_true, not_true_eq_false, List.map_cons, List.map_nil, List.sum_cons, List.sum_nil, va_up_eq, bx_uu, va_up_lit, List.length_cons, List.length_nil, List.drop_succ_cons, List.drop_zero, Option.toList_some, Option.toList_none, List.cons_append, List.nil_append, q01, q02, l02, nI_1']))
    exact this
  · (repeat (refine zS_one rfl ?_; simp (disch := (first | decide | assumption | omega)) only [i_push, i_null, i_ild, i_ald, i_ist, i_ast, i_inc, i_bin, i_div, i_un, i_dup, i_pop, i_dup2, i_if, i_icmp, i_nul, i_nnl, i_goto, i_getf, i_putf, i_gets, i_nald, i_nast, i_aald, i_aast, i_alen, i_new, i_newa, i_newq, i_math, i_oini, i_iret, i_zret, i_aret, i_vret, z_fit, List.getElem?_cons_zero, List.getElem?_cons_succ, List.set_cons_zero, List.set_cons_succ, Nat.reduceAdd, Nat.reduceLT, Nat.reduceLeDiff, Nat.reduceEqDiff, Nat.zero_lt_succ, Value.category, true_and, or_true, true_or, and_true, false_implies, true_implies, not_false_eq_true, not_true_eq_false, List.map_cons, List.map_nil, List.sum_cons, List.sum_nil, va_up_eq, bx_uu, va_up_lit, List.length_cons, List.length_nil, List.drop_succ_cons, List.drop_zero, Option.toList_some, Option.toList_none, List.cons_append, List.nil_append]))
    (try refine zS_one rfl ?_)
    refine r_callV (c_nextPart sc (d + 3) hR hat) rfl rfl rfl rfl hW.f (Nat.le_refl _) (Nat.le_refl _) ?_
    rintro r h1 ⟨hR1, hf1, hcase⟩
    have hS1 : ∀ q, q = 1 ∨ q = 2 ∨ q = 3 ∨ q = 4 → va_up S 13 (nI (at' + 1)) q = S q := fun q hq => va_up_lit _ _ _ _ (by omega)
    generalize va_up S 13 (nI (at' + 1)) = S1 at hR1 hS1
    obtain ⟨hV1, hB1, f13, f14⟩ := id hR1
    have hW1 := hV1.1
    have o1 := hW1.o
    have bad : ∀ (fs : List Value), fs = mF (va_up S1 14 1) → faQ h' S A n den 3 (va_up h1.1 15 (.inr (6, fs)), h1.2) := fun fs hfs =>
      ⟨n, den, va_up S1 14 1, A, hW1.fld hfs (va_up_lit _ _ _ _ (by decide)), va_up_eq _ _ _, exM.rf, fun q hq => (va_up_lit _ _ _ _ (by omega)).trans (hS1 q hq), fun _ _ => rfl, hf1.tr (frN.put (by decide) (by decide))⟩
    have n1 : (-1 : Int32) < 0 := by decide
    rcases hcase with ⟨t, τ, hl, rfl, ht, ed⟩ | ⟨rfl, hl⟩
    · have w0 : ¬ nI t < 0 := nI_pos (by omega)
      have t3 : vp_in (nI t) 1200 := vp_in_nI (by omega) (by decide)
      have t4 : (nI t).toNatClampNeg = t := nI_clamp (by omega)
      have a16 := hW1.a 16 2 1200 (by decide) (by decide) rfl rfl
      have a17 := hW1.a 17 0 1200 (by decide) (by decide) rfl rfl
      have hkd := hW1.2.2.kd ht 2
      rw [ed] at hkd
      by_cases z : A 16 t = 2
      · have hk2 : tkd τ = 2 := hkd.mp z
        have v1 : A 17 t = tv τ := by rw [← ed]; exact hW1.2.2.vl ht (Or.inr (by rw [ed]; exact hk2))
        have v2 : key20 (tv τ) := by rw [← v1]; exact hW1.2.2.key ht (by rw [ed]; exact hk2)
        have hR2 : ∀ fs, fs = mF (va_up S1 10 (tv τ)) → RD (va_up h1.1 15 (.inr (6, fs)), h1.2) (va_up S1 10 (tv τ)) A n den s l (at' + 1) (va_up I 5 (tv τ)) Θ := fun fs hfs => hR1.re v2 hfs
        (repeat (refine zS_one rfl ?_; simp (disch := (first | decide | assumption | omega)) only [i_push, i_null, i_ild, i_ald, i_ist, i_ast, i_inc, i_bin, i_div, i_un, i_dup, i_pop, i_dup2, i_if, i_icmp, i_nul, i_nnl, i_goto, i_getf, i_putf, i_gets, i_nald, i_nast, i_aald, i_aast, i_alen, i_new, i_newa, i_newq, i_math, i_oini, i_iret, i_zret, i_aret, i_vret, z_fit, List.getElem?_cons_zero, List.getElem?_cons_succ, List.set_cons_zero, List.set_cons_succ, Nat.reduceAdd, Nat.reduceLT, Nat.reduceLeDiff, Nat.reduceEqDiff, Nat.zero_lt_succ, Value.category, true_and, or_true, true_or, and_true, false_implies, true_implies, not_false_eq_true, not_true_eq_false, List.map_cons, List.map_nil, List.sum_cons, List.sum_nil, va_up_eq, bx_uu, va_up_lit, List.length_cons, List.length_nil, List.drop_succ_cons, List.drop_zero, Option.toList_some, Option.toList_none, List.cons_append, List.nil_append, o1, w0, a16, a17, t3, t4, z, v1]))
        (try refine zS_one rfl ?_)
        refine r_callV (c_mixHash sc (d + 1) (hR2 _ (by unfold mF; simp (disch := decide) only [va_up_eq, va_up_lit, f14])).1 (by omega) ht) rfl rfl rfl rfl rfl (Nat.le_refl _) (Nat.le_refl _) ?_
        rintro r h2 ⟨rfl, n2, den2, S2, A2, hV2, hx, hS, hA, hf⟩
        rw [ed] at hV2
        have hrt : rtok 1 l (I, Θ, at') = some (va_up I 5 (tv τ), hsh Θ τ, at' + 1) := by
          unfold rtok
          rw [if_pos (Or.inl rfl)]
          simp only [hl]
          unfold rk
          rw [if_pos rfl, if_pos hk2]
          rfl
        have hB2 : pB S2 A2 n2 den2 l := hB1.ext hx ((hS 12 (by omega)).trans (va_up_lit _ _ _ _ (by decide))) (hA 43 (by decide))
        have := hk h2 (some (.int 1)) (some (.int (nI t))) (Or.inl ⟨_, hrt, n2, den2, S2, A2, ⟨hV2, hB2, (hS 13 (by omega)).trans ((va_up_lit _ _ _ _ (by decide)).trans f13), (hS 14 (by omega)).trans ((va_up_lit _ _ _ _ (by decide)).trans f14)⟩, hx3 hx (by decide), fun q hq => ?_, hA, (hf1.tr (frN.put (by decide) (by decide))).tr hf⟩)
        · (iterate 3 (refine zS_one rfl ?_; simp (disch := (first | decide | assumption | omega)) only [i_push, i_null, i_ild, i_ald, i_ist, i_ast, i_inc, i_bin, i_div, i_un, i_dup, i_pop, i_dup2, i_if, i_icmp, i_nul, i_nnl, i_goto, i_getf, i_putf, i_gets, i_nald, i_nast, i_aald, i_aast, i_alen, i_new, i_newa, i_newq, i_math, i_oini, i_iret, i_zret, i_aret, i_vret, z_fit, List.getElem?_cons_zero, List.getElem?_cons_succ, List.set_cons_zero, List.set_cons_succ, Nat.reduceAdd, Nat.reduceLT, Nat.reduceLeDiff, Nat.reduceEqDiff, Nat.zero_lt_succ, Value.category, true_and, or_true, true_or, and_true, false_implies, true_implies, not_false_eq_true, not_true_eq_false, List.map_cons, List.map_nil, List.sum_cons, List.sum_nil, va_up_eq, bx_uu, va_up_lit, List.length_cons, List.length_nil, List.drop_succ_cons, List.drop_zero, Option.toList_some, Option.toList_none, List.cons_append, List.nil_append, nI_1']))
          exact this
        · rcases hq with rfl | rfl | rfl | rfl
          · exact (hS 1 (by omega)).trans ((va_up_lit _ _ _ _ (by decide)).trans (hS1 1 (by omega)))
          · exact (hS 2 (by omega)).trans ((va_up_lit _ _ _ _ (by decide)).trans (hS1 2 (by omega)))
          · exact (hS 3 (by omega)).trans ((va_up_lit _ _ _ _ (by decide)).trans (hS1 3 (by omega)))
          · exact hV2.2.2.1.trans hV.2.2.1.symm
      · have hrt : rtok 1 l (I, Θ, at') = none := by
          unfold rtok
          rw [if_pos (Or.inl rfl)]
          simp only [hl]
          unfold rk
          rw [if_pos rfl, if_neg (show ¬ tkd τ = 2 from fun q => z (hkd.mpr q))]
          rfl
        have := fun fs hfs => hk (va_up h1.1 15 (.inr (6, fs)), h1.2) (some (.int 1)) (some (.int (nI t))) (Or.inr ⟨hrt, bad fs hfs⟩)
        (iterate 27 (refine zS_one rfl ?_; simp (disch := (first | decide | assumption | omega)) only [i_push, i_null, i_ild, i_ald, i_ist, i_ast, i_inc, i_bin, i_div, i_un, i_dup, i_pop, i_dup2, i_if, i_icmp, i_nul, i_nnl, i_goto, i_getf, i_putf, i_gets, i_nald, i_nast, i_aald, i_aast, i_alen, i_new, i_newa, i_newq, i_math, i_oini, i_iret, i_zret, i_aret, i_vret, z_fit, List.getElem?_cons_zero, List.getElem?_cons_succ, List.set_cons_zero, List.set_cons_succ, Nat.reduceAdd, Nat.reduceLT, Nat.reduceLeDiff, Nat.reduceEqDiff, Nat.zero_lt_succ, Value.category, true_and, or_true, true_or, and_true, false_implies, true_implies, not_false_eq_true, not_true_eq_false, List.map_cons, List.map_nil, List.sum_cons, List.sum_nil, va_up_eq, bx_uu, va_up_lit, List.length_cons, List.length_nil, List.drop_succ_cons, List.drop_zero, Option.toList_some, Option.toList_none, List.cons_append, List.nil_append, o1, w0, a16, a17, t3, t4, z, q10, nI_1']))
        refine this _ ?_
        unfold mF; simp (disch := decide) only [va_up_eq, va_up_lit]
    · have hrt : rtok 1 l (I, Θ, at') = none := by
        unfold rtok
        rw [if_pos (Or.inl rfl)]
        simp only [hl]
      have := fun fs hfs => hk (va_up h1.1 15 (.inr (6, fs)), h1.2) (some (.int 1)) (some (.int (-1))) (Or.inr ⟨hrt, bad fs hfs⟩)
      (iterate 21 (refine zS_one rfl ?_; simp (disch := (first | decide | assumption | omega)) only [i_push, i_null, i_ild, i_ald, i_ist, i_ast, i_inc, i_bin, i_div, i_un, i_dup, i_pop, i_dup2, i_if, i_icmp, i_nul, i_nnl, i_goto, i_getf, i_putf, i_gets, i_nald, i_nast, i_aald, i_aast, i_alen, i_new, i_newa, i_newq, i_math, i_oini, i_iret, i_zret, i_aret, i_vret, z_fit, List.getElem?_cons_zero, List.getElem?_cons_succ, List.set_cons_zero, List.set_cons_succ, Nat.reduceAdd, Nat.reduceLT, Nat.reduceLeDiff, Nat.reduceEqDiff, Nat.zero_lt_succ, Value.category, true_and, or_true, true_or, and_true, false_implies, true_implies, not_false_eq_true, not_true_eq_false, List.map_cons, List.map_nil, List.sum_cons, List.sum_nil, va_up_eq, bx_uu, va_up_lit, List.length_cons, List.length_nil, List.drop_succ_cons, List.drop_zero, Option.toList_some, Option.toList_none, List.cons_append, List.nil_append, o1, n1, q10, nI_1']))
      refine this _ ?_
      unfold mF; simp (disch := decide) only [va_up_eq, va_up_lit]
  · (repeat (refine zS_one rfl ?_; simp (disch := (first | decide | assumption | omega)) only [i_push, i_null, i_ild, i_ald, i_ist, i_ast, i_inc, i_bin, i_div, i_un, i_dup, i_pop, i_dup2, i_if, i_icmp, i_nul, i_nnl, i_goto, i_getf, i_putf, i_gets, i_nald, i_nast, i_aald, i_aast, i_alen, i_new, i_newa, i_newq, i_math, i_oini, i_iret, i_zret, i_aret, i_vret, z_fit, List.getElem?_cons_zero, List.getElem?_cons_succ, List.set_cons_zero, List.set_cons_succ, Nat.reduceAdd, Nat.reduceLT, Nat.reduceLeDiff, Nat.reduceEqDiff, Nat.zero_lt_succ, Value.category, true_and, or_true, true_or, and_true, false_implies, true_implies, not_false_eq_true, not_true_eq_false, List.map_cons, List.map_nil, List.sum_cons, List.sum_nil, va_up_eq, bx_uu, va_up_lit, List.length_cons, List.length_nil, List.drop_succ_cons, List.drop_zero, Option.toList_some, Option.toList_none, List.cons_append, List.nil_append, q21]))
    (try refine zS_one rfl ?_)
    refine r_callV (c_take sc d hR hat (by omega) 2) rfl rfl rfl rfl hW.f (Nat.le_refl _) (Nat.le_refl _) ?_
    rintro r h1 (⟨u, τ, Z, rfl, hu, hZ, hl, ho, hkd, n1, den1, S1, A1, hR1, hx, hS, hA, hf⟩ | ⟨⟨v, rfl⟩, hno, n1, den1, S1, A1, hW1, f14, hx, hS, hA, hf⟩)
    · have hk2 : tkd Z = 2 := hkd
      obtain ⟨hV1, hB1, f13, f14⟩ := id hR1
      have hW1 := hV1.1
      have o1 := hW1.o
      rw [f14] at o1
      have hu1 : u < n1 := Nat.lt_of_lt_of_le hu hx.1
      have hZ1 : den1 u = Z := (hx.2.2 u hu).trans hZ
      have h121 := hW1.2.2.1
      have t3 : vp_in (nI u) 1200 := vp_in_nI (by omega) (by decide)
      have t4 : (nI u).toNatClampNeg = u := nI_clamp (by omega)
      have a17 := hW1.a 17 0 1200 (by decide) (by decide) rfl rfl
      have v1 : A1 17 u = tv Z := by rw [← hZ1]; exact hW1.2.2.vl hu1 (Or.inr (by rw [hZ1]; exact hk2))
      have v2 : key20 (tv Z) := by rw [← v1]; exact hW1.2.2.key hu1 (by rw [hZ1]; exact hk2)
      have hrt : rtok 2 l (I, Θ, at') = some (va_up (inc I Θ) 4 (tv Z), hsh Θ τ, at' + 1) := by
        unfold rtok
        rw [if_pos (Or.inr rfl)]
        simp only [hl]
        unfold rk
        rw [if_neg (by decide)]
        simp only [ho]
        rw [if_pos hk2]
        rfl
      have := fun fs hfs => hk (va_up h1.1 15 (.inr (6, fs)), h1.2) (some (.int 2)) (some (.int (nI u))) (Or.inl ⟨_, hrt, n1, den1, va_up S1 11 (tv Z), A1, hR1.rs v2 hfs, hx3 hx (by decide), fun q hq => (va_up_lit _ _ _ _ (by omega)).trans (hS q hq), hA, hf.tr (frN.put (by decide) (by decide))⟩)
      (iterate 13 (refine zS_one rfl ?_; simp (disch := (first | decide | assumption | omega)) only [i_push, i_null, i_ild, i_ald, i_ist, i_ast, i_inc, i_bin, i_div, i_un, i_dup, i_pop, i_dup2, i_if, i_icmp, i_nul, i_nnl, i_goto, i_getf, i_putf, i_gets, i_nald, i_nast, i_aald, i_aast, i_alen, i_new, i_newa, i_newq, i_math, i_oini, i_iret, i_zret, i_aret, i_vret, z_fit, List.getElem?_cons_zero, List.getElem?_cons_succ, List.set_cons_zero, List.set_cons_succ, Nat.reduceAdd, Nat.reduceLT, Nat.reduceLeDiff, Nat.reduceEqDiff, Nat.zero_lt_succ, Value.category, true_and, or_true, true_or, and_true, false_implies, true_implies, not_false_eq_true, not_true_eq_false, List.map_cons, List.map_nil, List.sum_cons, List.sum_nil, va_up_eq, bx_uu, va_up_lit, List.length_cons, List.length_nil, List.drop_succ_cons, List.drop_zero, Option.toList_some, Option.toList_none, List.cons_append, List.nil_append, o1, a17, t3, t4, v1, nI_1']))
      refine this _ ?_
      unfold mF; simp (disch := decide) only [va_up_eq, va_up_lit, f14]
    · have o1 := hW1.o
      rw [f14] at o1
      have hrt : rtok 2 l (I, Θ, at') = none := by
        unfold rtok
        rw [if_pos (Or.inr rfl)]
        cases hl : l[at']? with
        | none => simp only [hl]
        | some τ =>
          simp only [hl]
          unfold rk
          rw [if_neg (by decide)]
          cases ho : opnF I Θ τ with
          | none => simp only [ho]; rfl
          | some Z =>
            simp only [ho]
            rw [if_neg (show ¬ tkd Z = 2 from hno τ Z hl ho)]
            rfl
      have := fun fs hfs => hk (va_up h1.1 15 (.inr (6, fs)), h1.2) (some (.int 2)) (some (.int v)) (Or.inr ⟨hrt, n1, den1, S1, A1, hW1.fld hfs rfl, f14, hx3 hx (by decide), hS, hA, hf.tr (frN.put (by decide) (by decide))⟩)
      (iterate 12 (refine zS_one rfl ?_; simp (disch := (first | decide | assumption | omega)) only [i_push, i_null, i_ild, i_ald, i_ist, i_ast, i_inc, i_bin, i_div, i_un, i_dup, i_pop, i_dup2, i_if, i_icmp, i_nul, i_nnl, i_goto, i_getf, i_putf, i_gets, i_nald, i_nast, i_aald, i_aast, i_alen, i_new, i_newa, i_newq, i_math, i_oini, i_iret, i_zret, i_aret, i_vret, z_fit, List.getElem?_cons_zero, List.getElem?_cons_succ, List.set_cons_zero, List.set_cons_succ, Nat.reduceAdd, Nat.reduceLT, Nat.reduceLeDiff, Nat.reduceEqDiff, Nat.zero_lt_succ, Value.category, true_and, or_true, true_or, and_true, false_implies, true_implies, not_false_eq_true, not_true_eq_false, List.map_cons, List.map_nil, List.sum_cons, List.sum_nil, va_up_eq, bx_uu, va_up_lit, List.length_cons, List.length_nil, List.drop_succ_cons, List.drop_zero, Option.toList_some, Option.toList_none, List.cons_append, List.nil_append, o1, q10, nI_1']))
      refine this _ ?_
      unfold mF; simp (disch := decide) only [f14]
  · have hm' := hm
    have q1 : ¬ tok = 1 := by rintro rfl; exact absurd hm' (by unfold isMix; decide)
    have q2 : ¬ tok = 2 := by rintro rfl; exact absurd hm' (by unfold isMix; decide)
    have q0 : ¬ tok = 0 := by rintro rfl; exact absurd hm' (by unfold isMix; decide)
    have q3 : ¬ tok ≤ 2 := by rcases hm' with rfl | rfl | rfl | rfl <;> decide
    (repeat (refine zS_one rfl ?_; simp (disch := (first | decide | assumption | omega)) only [i_push, i_null, i_ild, i_ald, i_ist, i_ast, i_inc, i_bin, i_div, i_un, i_dup, i_pop, i_dup2, i_if, i_icmp, i_nul, i_nnl, i_goto, i_getf, i_putf, i_gets, i_nald, i_nast, i_aald, i_aast, i_alen, i_new, i_newa, i_newq, i_math, i_oini, i_iret, i_zret, i_aret, i_vret, z_fit, List.getElem?_cons_zero, List.getElem?_cons_succ, List.set_cons_zero, List.set_cons_succ, Nat.reduceAdd, Nat.reduceLT, Nat.reduceLeDiff, Nat.reduceEqDiff, Nat.zero_lt_succ, Value.category, true_and, or_true, true_or, and_true, false_implies, true_implies, not_false_eq_true, not_true_eq_false, List.map_cons, List.map_nil, List.sum_cons, List.sum_nil, va_up_eq, bx_uu, va_up_lit, List.length_cons, List.length_nil, List.drop_succ_cons, List.drop_zero, Option.toList_some, Option.toList_none, List.cons_append, List.nil_append, q1, q2, q3]))
    (try refine zS_one rfl ?_)
    refine r_callV (c_agree sc (d + 1) hV hn hm) rfl rfl rfl rfl hW.f (Nat.le_refl _) (Nat.le_refl _) ?_
    rintro r h1 ⟨rfl, n1, den1, S1, A1, hV1, hx, hS, hA, hf⟩
    have hrt : rtok tok l (I, Θ, at') = some (va_up I 6 0, mixΘ tok I Θ, at') := by
      unfold rtok
      rw [if_neg (fun z => by rcases z with z | z; exact q1 z; exact q2 z), if_neg q0]
    have := hk h1 (some (.int tok)) l4 (Or.inl ⟨_, hrt, n1, den1, S1, A1, ⟨hV1, hB.ext hx (hS 12 (by omega)) (hA 43 (by decide)), (hS 13 (by omega)).trans e13, (hS 14 (by omega)).trans e14⟩, hx, fun q hq => ?_, hA, hf⟩)
    · (iterate 2 (refine zS_one rfl ?_; simp (disch := (first | decide | assumption | omega)) only [i_push, i_null, i_ild, i_ald, i_ist, i_ast, i_inc, i_bin, i_div, i_un, i_dup, i_pop, i_dup2, i_if, i_icmp, i_nul, i_nnl, i_goto, i_getf, i_putf, i_gets, i_nald, i_nast, i_aald, i_aast, i_alen, i_new, i_newa, i_newq, i_math, i_oini, i_iret, i_zret, i_aret, i_vret, z_fit, List.getElem?_cons_zero, List.getElem?_cons_succ, List.set_cons_zero, List.set_cons_succ, Nat.reduceAdd, Nat.reduceLT, Nat.reduceLeDiff, Nat.reduceEqDiff, Nat.zero_lt_succ, Value.category, true_and, or_true, true_or, and_true, false_implies, true_implies, not_false_eq_true, not_true_eq_false, List.map_cons, List.map_nil, List.sum_cons, List.sum_nil, va_up_eq, bx_uu, va_up_lit, List.length_cons, List.length_nil, List.drop_succ_cons, List.drop_zero, Option.toList_some, Option.toList_none, List.cons_append, List.nil_append, nI_1']))
      exact this
    · rcases hq with rfl | rfl | rfl | rfl
      · exact hS 1 (by omega)
      · exact hS 2 (by omega)
      · exact hS 3 (by omega)
      · exact hV1.2.2.1.trans hV.2.2.1.symm
end MO8
