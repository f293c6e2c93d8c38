section MOE
variable {h0 : zH} {S : Nat → Int32} {A : Nat → Nat → Int32} {n s : Nat} {den : Nat → zT} {I : Nat → Int32} {Θ : Nat → zT} {l : List zT}
/-- a message is being written: S, A, n, den were there at first; w = ints, terms, parts, keys made -/
def wtQ (h0 : zH) (S : Nat → Int32) (A : Nat → Nat → Int32) (n : Nat) (den : Nat → zT) (s c : Nat) (w : zW) (h' : zH) : Prop := ∃ n' den' S' A', MV h' S' A' n' den' s w.1 w.2.1 ∧ pB S' A' n' den' w.2.2.1 ∧ (∃ e, e ≤ 12 ∧ w.2.2.2 = 8 + e ∧ S' 2 = nI e) ∧ exM n den n' den' c ∧ (S' 1 = S 1 ∧ S' 3 = S 3) ∧ (∀ p, 20 < p → p < 43 → A' p = A p) ∧ frN h0 h'
theorem MV.eph (hV : MV h0 S A n den s I Θ) {e v : Int32} (hv : key20 v) {fs : List Value} (hfs : fs = mF (va_up (va_up S 2 e) 9 v)) : MV (va_up h0.1 15 (.inr (6, fs)), h0.2) (va_up (va_up S 2 e) 9 v) A n den s (va_up I 3 v) Θ := by
  obtain ⟨hW, z1, z2, z3, z4, z5, ⟨z6, z6a, z6b, z6c⟩, ⟨za, zb, zc, zd⟩, zi⟩ := hV
  have t : ∀ q, q ≠ 2 → q ≠ 9 → va_up (va_up S 2 e) 9 v q = S q := fun q h1 h2 => (va_up_lit _ _ _ _ h2).trans (va_up_lit _ _ _ _ h1)
  refine ⟨hW.fld hfs (t 0 (by decide) (by decide)), z1, (t 4 (by decide) (by decide)).trans z2, ?_, ?_, ?_, ⟨?_, ?_, ?_, ?_⟩, ⟨?_, ?_, ?_, ?_⟩, ?_⟩
  · rw [t 5 (by decide) (by decide)]; exact z3
  · rw [t 6 (by decide) (by decide)]; exact z4
  · rw [t 7 (by decide) (by decide)]; exact z5
  · rw [t 8 (by decide) (by decide), va_up_lit _ _ _ _ (by decide)]; exact z6
  · rw [va_up_eq, va_up_eq]
  · rw [t 10 (by decide) (by decide), va_up_lit _ _ _ _ (by decide)]; exact z6b
  · rw [t 11 (by decide) (by decide), va_up_lit _ _ _ _ (by decide)]; exact z6c
  · rw [va_up_lit _ _ _ _ (by decide)]; exact za
  · rw [va_up_lit _ _ _ _ (by decide)]; exact zb
  · rw [va_up_lit _ _ _ _ (by decide)]; exact zc
  · rw [va_up_lit _ _ _ _ (by decide)]; exact zd
  · obtain ⟨i0, i1, i2, i3, i4, i5, i7⟩ := zi
    refine ⟨?_, ?_, ?_, ?_, ?_, ?_, ?_⟩
    · rw [va_up_lit _ _ _ _ (by decide)]; exact i0
    · rw [va_up_lit _ _ _ _ (by decide)]; exact i1
    · rw [va_up_lit _ _ _ _ (by decide)]; exact i2
    · rw [va_up_eq]; exact hv
    · rw [va_up_lit _ _ _ _ (by decide)]; exact i4
    · rw [va_up_lit _ _ _ _ (by decide)]; exact i5
    · rw [va_up_lit _ _ _ _ (by decide)]; exact i7
theorem nI_8 (e : Nat) : (8 : Int32) + nI e = nI (8 + e) := by
  show Int32.ofNat 8 + Int32.ofNat e = Int32.ofNat (8 + e)
  rw [Int32.ofNat_add]
set_option maxHeartbeats 8000000 in
theorem write_step (sc : Nat × (Nat → Int32)) (d : Nat) (hV : MV h0 S A n den s I Θ) (hB : pB S A n den l) {e : Nat} (he : e ≤ 12) (h2 : S 2 = nI e) (hn : n + 3 ≤ 1200) {p st i : Nat} (hi : i < 4) (e25 : A 25 s = nI p) (e35 : A 35 s = nI st) (hr : p * 3 + st ≤ 4) (hst : st < 3) (hl : l.length + isES (z_tok ((p * 3 + st) * 4 + i)) ≤ 3) (hk1 : z_tok ((p * 3 + st) * 4 + i) = 1 → e < 12) {P : zP} (l2 l4 l5 : Option Value)
    (hk : ∀ h' l4 l5, wtQ h0 S A n den s 3 (wtok (z_tok ((p * 3 + st) * 4 + i)) (I, Θ, l, 8 + e)) h' → zS (zMt zTab sc (d + 5), (0, 0), sc) k_Mo_write P (65, [some (.ref 15), some (.int (nI s)), l2, some (.int (nI (i + 1))), l4, l5], [], h', 0, 0)) :
    zS (zMt zTab sc (d + 5), (0, 0), sc) k_Mo_write P (65, [some (.ref 15), some (.int (nI s)), l2, some (.int (nI i)), l4, l5], [], h0, 0, 0) := by
  have hW := hV.1
  have o := hW.o
  rw [h2] at o
  have hs := hV.2.1
  have h12 := hW.2.2.1
  have a25 := hW.a 25 0 12 (by decide) (by decide) rfl rfl
  have a35 := hW.a 35 0 12 (by decide) (by decide) rfl rfl
  have a27 := hW.a 27 0 12 (by decide) (by decide) rfl rfl
  have w3 : vp_in (nI s) 12 := vp_in_nI (by omega) (by decide)
  have w4 : (nI s).toNatClampNeg = s := nI_clamp (by omega)
  have wi : ¬ (4 : Int32) ≤ nI i := by
    rcases (show i = 0 ∨ i = 1 ∨ i = 2 ∨ i = 3 by omega) with rfl | rfl | rfl | rfl <;> decide
  (repeat (refine zS_one rfl ?_; simp (disch := (first | decide | assumption | omega)) only [i_push, i_null, i_ild, i_ald, i_ist, i_ast, i_inc, i_bin, i_div, i_un, i_dup, i_pop, i_dup2, i_if, i_icmp, i_nul, i_nnl, i_goto, i_getf, i_putf, i_gets, i_nald, i_nast, i_aald, i_aast, i_alen, i_new, i_newa, i_newq, i_math, i_oini, i_iret, i_zret, i_aret, i_vret, z_fit, List.getElem?_cons_zero, List.getElem?_cons_succ, List.set_cons_zero, List.set_cons_succ, Nat.reduceAdd, Nat.reduceLT, Nat.reduceLeDiff, Nat.reduceEqDiff, Nat.zero_lt_succ, Value.category, true_and, or_true, true_or, and_true, false_implies, true_implies, not_false_eq_true, not_true_eq_false, List.map_cons, List.map_nil, List.sum_cons, List.sum_nil, va_up_eq, bx_uu, va_up_lit, List.length_cons, List.length_nil, List.drop_succ_cons, List.drop_zero, Option.toList_some, Option.toList_none, List.cons_append, List.nil_append, o, a25, a35, w3, w4, wi, e25, e35]))
  (try refine zS_one rfl ?_)
  refine r_callS (c_token sc (d + 4) _ hr hst hi) rfl rfl rfl rfl (Nat.le_refl _) (Nat.le_refl _) ?_
  rintro r h' ⟨rfl, rfl⟩
  have htok : z_tok ((p * 3 + st) * 4 + i) = 0 ∨ z_tok ((p * 3 + st) * 4 + i) = 1 ∨ z_tok ((p * 3 + st) * 4 + i) = 2 ∨ isMix (z_tok ((p * 3 + st) * 4 + i)) := by
    have : (p * 3 + st) * 4 + i < 20 := by omega
    generalize (p * 3 + st) * 4 + i = j at this
    have hall : ∀ j, j < 20 → (z_tok j = 0 ∨ z_tok j = 1 ∨ z_tok j = 2 ∨ (z_tok j = 3 ∨ z_tok j = 4 ∨ z_tok j = 5 ∨ z_tok j = 6)) := by decide
    exact hall j this
  generalize z_tok ((p * 3 + st) * 4 + i) = tok at hk htok hl hk1
  have q01 : ¬ (0 : Int32) = 1 := by decide
  have q02 : ¬ (0 : Int32) = 2 := by decide
  have q21 : ¬ (2 : Int32) = 1 := by decide
  have l02 : (0 : Int32) ≤ 2 := by decide
  have hx3 : ∀ {n' : Nat} {den' : Nat → zT} {c : Nat}, exM n den n' den' c → c ≤ 3 → exM n den n' den' 3 := fun hx hc => ⟨hx.1, by have := hx.2.1; omega, hx.2.2⟩
  rcases htok with rfl | rfl | rfl | hm
  · have := hk h' (some (.int 0)) l5 ⟨n, den, S, A, by unfold wtok; rw [if_neg q01, if_neg q02, if_pos rfl]; exact hV, by unfold wtok; rw [if_neg q01, if_neg q02, if_pos rfl]; exact hB, ⟨e, he, by unfold wtok; rw [if_neg q01, if_neg q02, if_pos rfl], h2⟩, exM.rf, ⟨rfl, rfl⟩, fun _ _ _ => rfl, frN.rf⟩
    (iterate 12 (refine zS_one rfl ?_; simp (disch := (first | decide | assumption | omega)) only [i_push, i_null, i_ild, i_ald, i_ist, i_ast, i_inc, i_bin, i_div, i_un, i_dup, i_pop, i_dup2, i_if, i_icmp, i_nul, i_nnl, i_goto, i_getf, i_putf, i_gets, i_nald, i_nast, i_aald, i_aast, i_alen, i_new, i_newa, i_newq, i_math, i_oini, i_iret, i_zret, i_aret, i_vret, z_fit, List.getElem?_cons_zero, List.getElem?_cons_succ, List.set_cons_zero, List.set_cons_succ, Nat.reduceAdd, Nat.reduceLT, Nat.reduceLeDiff, Nat.reduceEqDiff, Nat.zero_lt_succ, Value.category, true_and, or_true, true_or, and_true, false_implies, true_implies, not_false_eq_true, not_true_eq_false, List.map_cons, List.map_nil, List.sum_cons, List.sum_nil, va_up_eq, bx_uu, va_up_lit, List.length_cons, List.length_nil, List.drop_succ_cons, List.drop_zero, Option.toList_some, Option.toList_none, List.cons_append, List.nil_append, q01, q02, l02, nI_1']))
    exact this
  · have hl1 : l.length < 3 := by
      have : isES 1 = 1 := by decide
      omega
    have he1 : e < 12 := hk1 rfl
    have hV1 : ∀ fs, fs = mF (va_up (va_up S 2 (nI (e + 1))) 9 (nI (8 + (e + 1)))) → MV (va_up h'.1 15 (.inr (6, fs)), h'.2) (va_up (va_up S 2 (nI (e + 1))) 9 (nI (8 + (e + 1)))) A n den s (va_up I 3 (nI (8 + (e + 1)))) Θ := fun fs hfs => hV.eph ⟨8 + (e + 1), by omega, rfl⟩ hfs
    (repeat (refine zS_one rfl ?_; simp (disch := (first | decide | assumption | omega)) only [i_push, i_null, i_ild, i_ald, i_ist, i_ast, i_inc, i_bin, i_div, i_un, i_dup, i_pop, i_dup2, i_if, i_icmp, i_nul, i_nnl, i_goto, i_getf, i_putf, i_gets, i_nald, i_nast, i_aald, i_aast, i_alen, i_new, i_newa, i_newq, i_math, i_oini, i_iret, i_zret, i_aret, i_vret, z_fit, List.getElem?_cons_zero, List.getElem?_cons_succ, List.set_cons_zero, List.set_cons_succ, Nat.reduceAdd, Nat.reduceLT, Nat.reduceLeDiff, Nat.reduceEqDiff, Nat.zero_lt_succ, Value.category, true_and, or_true, true_or, and_true, false_implies, true_implies, not_false_eq_true, not_true_eq_false, List.map_cons, List.map_nil, List.sum_cons, List.sum_nil, va_up_eq, bx_uu, va_up_lit, List.length_cons, List.length_nil, List.drop_succ_cons, List.drop_zero, Option.toList_some, Option.toList_none, List.cons_append, List.nil_append, o, nI_1', nI_8]))
    (try refine zS_one rfl ?_)
    refine r_callV (c_Mpub sc (d + 3) (hV1 _ (by unfold mF; simp (disch := decide) only [va_up_eq, va_up_lit])).1 (by omega) (p := 8 + (e + 1)) (by omega)) rfl rfl rfl rfl rfl (Nat.le_refl _) (Nat.le_refl _) ?_
    rintro r h1 ⟨u, n1, den1, S1, A1, rfl, hu, ed, hW1, hx1, hS1, hA1, hf1⟩
    have hV2 := (hV1 _ rfl).grow hW1 hx1 hS1 hA1
    have hn1 : n1 ≤ n + 1 := hx1.2.1
    have hB2 : pB S1 A1 n1 den1 l := hB.ext hx1 ((hS1 12 (by decide)).trans ((va_up_lit _ _ _ _ (by decide)).trans (va_up_lit _ _ _ _ (by decide)))) (hA1 43 (by decide))
    (repeat (refine zS_one rfl ?_; simp (disch := (first | decide | assumption | omega)) only [i_push, i_null, i_ild, i_ald, i_ist, i_ast, i_inc, i_bin, i_div, i_un, i_dup, i_pop, i_dup2, i_if, i_icmp, i_nul, i_nnl, i_goto, i_getf, i_putf, i_gets, i_nald, i_nast, i_aald, i_aast, i_alen, i_new, i_newa, i_newq, i_math, i_oini, i_iret, i_zret, i_aret, i_vret, z_fit, List.getElem?_cons_zero, List.getElem?_cons_succ, List.set_cons_zero, List.set_cons_succ, Nat.reduceAdd, Nat.reduceLT, Nat.reduceLeDiff, Nat.reduceEqDiff, Nat.zero_lt_succ, Value.category, true_and, or_true, true_or, and_true, false_implies, true_implies, not_false_eq_true, not_true_eq_false, List.map_cons, List.map_nil, List.sum_cons, List.sum_nil, va_up_eq, bx_uu, va_up_lit, List.length_cons, List.length_nil, List.drop_succ_cons, List.drop_zero, Option.toList_some, Option.toList_none, List.cons_append, List.nil_append]))
    (try refine zS_one rfl ?_)
    refine r_callV (c_MaddPart sc (d + 1) hV2 hB2 hl1 (by omega) hu) rfl rfl rfl rfl hW1.f (Nat.le_refl _) (Nat.le_refl _) ?_
    rintro r h2' ⟨rfl, n2, den2, S2, A2, hV3, hB3, hx2, hS2, hA2, hf2⟩
    rw [ed] at hV3 hB3
    have := hk h2' (some (.int 1)) (some (.int (nI u))) ⟨n2, den2, S2, A2, by unfold wtok; rw [if_pos rfl]; exact hV3, by unfold wtok; rw [if_pos rfl]; exact hB3, ⟨e + 1, by omega, by unfold wtok; rw [if_pos rfl]; rfl, ?_⟩, hx3 (hx1.tr hx2) (by decide), ⟨?_, ?_⟩, fun p h1 h2 => ?_, ((frN.put (by decide) (by decide)).tr hf1).tr hf2⟩
    · (iterate 3 (refine zS_one rfl ?_; simp (disch := (first | decide | assumption | omega)) only [i_push, i_null, i_ild, i_ald, i_ist, i_ast, i_inc, i_bin, i_div, i_un, i_dup, i_pop, i_dup2, i_if, i_icmp, i_nul, i_nnl, i_goto, i_getf, i_putf, i_gets, i_nald, i_nast, i_aald, i_aast, i_alen, i_new, i_newa, i_newq, i_math, i_oini, i_iret, i_zret, i_aret, i_vret, z_fit, List.getElem?_cons_zero, List.getElem?_cons_succ, List.set_cons_zero, List.set_cons_succ, Nat.reduceAdd, Nat.reduceLT, Nat.reduceLeDiff, Nat.reduceEqDiff, Nat.zero_lt_succ, Value.category, true_and, or_true, true_or, and_true, false_implies, true_implies, not_false_eq_true, not_true_eq_false, List.map_cons, List.map_nil, List.sum_cons, List.sum_nil, va_up_eq, bx_uu, va_up_lit, List.length_cons, List.length_nil, List.drop_succ_cons, List.drop_zero, Option.toList_some, Option.toList_none, List.cons_append, List.nil_append, nI_1']))
      exact this
    · rw [hS2 2 (by omega), hS1 2 (by omega), va_up_lit _ _ _ _ (by decide), va_up_eq]
    · rw [hS2 1 (by omega), hS1 1 (by omega), va_up_lit _ _ _ _ (by decide), va_up_lit _ _ _ _ (by decide)]
    · rw [hS2 3 (by omega), hS1 3 (by omega), va_up_lit _ _ _ _ (by decide), va_up_lit _ _ _ _ (by decide)]
    · rw [hA2 p h1 h2, hA1 p h1]
  · have hl1 : l.length < 3 := by
      have : isES 2 = 1 := by decide
      omega
    obtain ⟨-, -, -, -, -, -, -, ⟨-, -, e27, -⟩, hI⟩ := id hV
    obtain ⟨-, -, ⟨a, ha, ea⟩, -⟩ := id hI
    have e27' := e27.trans ea
    (repeat (refine zS_one rfl ?_; simp (disch := (first | decide | assumption | omega)) only [i_push, i_null, i_ild, i_ald, i_ist, i_ast, i_inc, i_bin, i_div, i_un, i_dup, i_pop, i_dup2, i_if, i_icmp, i_nul, i_nnl, i_goto, i_getf, i_putf, i_gets, i_nald, i_nast, i_aald, i_aast, i_alen, i_new, i_newa, i_newq, i_math, i_oini, i_iret, i_zret, i_aret, i_vret, z_fit, List.getElem?_cons_zero, List.getElem?_cons_succ, List.set_cons_zero, List.set_cons_succ, Nat.reduceAdd, Nat.reduceLT, Nat.reduceLeDiff, Nat.reduceEqDiff, Nat.zero_lt_succ, Value.category, true_and, or_true, true_or, and_true, false_implies, true_implies, not_false_eq_true, not_true_eq_false, List.map_cons, List.map_nil, List.sum_cons, List.sum_nil, va_up_eq, bx_uu, va_up_lit, List.length_cons, List.length_nil, List.drop_succ_cons, List.drop_zero, Option.toList_some, Option.toList_none, List.cons_append, List.nil_append, o, a27, w3, w4, e27', q21]))
    (try refine zS_one rfl ?_)
    refine r_callV (c_Mpub sc (d + 3) hW (by omega) (p := a) ha) rfl rfl rfl rfl hW.f (Nat.le_refl _) (Nat.le_refl _) ?_
    rintro r h1 ⟨u, n1, den1, S1, A1, rfl, hu, ed, hW1, hx1, hS1, hA1, hf1⟩
    have hV2 := hV.grow hW1 hx1 hS1 hA1
    have hn1 : n1 ≤ n + 1 := hx1.2.1
    have hB2 : pB S1 A1 n1 den1 l := hB.ext hx1 (hS1 12 (by decide)) (hA1 43 (by decide))
    (repeat (refine zS_one rfl ?_; simp (disch := (first | decide | assumption | omega)) only [i_push, i_null, i_ild, i_ald, i_ist, i_ast, i_inc, i_bin, i_div, i_un, i_dup, i_pop, i_dup2, i_if, i_icmp, i_nul, i_nnl, i_goto, i_getf, i_putf, i_gets, i_nald, i_nast, i_aald, i_aast, i_alen, i_new, i_newa, i_newq, i_math, i_oini, i_iret, i_zret, i_aret, i_vret, z_fit, List.getElem?_cons_zero, List.getElem?_cons_succ, List.set_cons_zero, List.set_cons_succ, Nat.reduceAdd, Nat.reduceLT, Nat.reduceLeDiff, Nat.reduceEqDiff, Nat.zero_lt_succ, Value.category, true_and, or_true, true_or, and_true, false_implies, true_implies, not_false_eq_true, not_true_eq_false, List.map_cons, List.map_nil, List.sum_cons, List.sum_nil, va_up_eq, bx_uu, va_up_lit, List.length_cons, List.length_nil, List.drop_succ_cons, List.drop_zero, Option.toList_some, Option.toList_none, List.cons_append, List.nil_append]))
    (try refine zS_one rfl ?_)
    refine r_callV (c_put sc d hV2 hB2 hl1 (by omega) hu) rfl rfl rfl rfl hW1.f (Nat.le_refl _) (Nat.le_refl _) ?_
    rintro r h2' ⟨rfl, n2, den2, S2, A2, hV3, hB3, hx2, hS2, hA2, hf2⟩
    rw [ed, ← ea] at hV3 hB3
    have := hk h2' (some (.int 2)) (some (.int (nI u))) ⟨n2, den2, S2, A2, by unfold wtok; rw [if_neg q21, if_pos rfl]; exact hV3, by unfold wtok; rw [if_neg q21, if_pos rfl]; exact hB3, ⟨e, he, by unfold wtok; rw [if_neg q21, if_pos rfl], ?_⟩, hx3 (hx1.tr hx2) (by decide), ⟨?_, ?_⟩, fun p h1 h2 => ?_, hf1.tr hf2⟩
    · (iterate 3 (refine zS_one rfl ?_; simp (disch := (first | decide | assumption | omega)) only [i_push, i_null, i_ild, i_ald, i_ist, i_ast, i_inc, i_bin, i_div, i_un, i_dup, i_pop, i_dup2, i_if, i_icmp, i_nul, i_nnl, i_goto, i_getf, i_putf, i_gets, i_nald, i_nast, i_aald, i_aast, i_alen, i_new, i_newa, i_newq, i_math, i_oini, i_iret, i_zret, i_aret, i_vret, z_fit, List.getElem?_cons_zero, List.getElem?_cons_succ, List.set_cons_zero, List.set_cons_succ, Nat.reduceAdd, Nat.reduceLT, Nat.reduceLeDiff, Nat.reduceEqDiff, Nat.zero_lt_succ, Value.category, true_and, or_true, true_or, and_true, false_implies, true_implies, not_false_eq_true, not_true_eq_false, List.map_cons, List.map_nil, List.sum_cons, List.sum_nil, va_up_eq, bx_uu, va_up_lit, List.length_cons, List.length_nil, List.drop_succ_cons, List.drop_zero, Option.toList_some, Option.toList_none, List.cons_append, List.nil_append, nI_1']))
      exact this
    · rw [hS2 2 (by omega), hS1 2 (by omega)]; exact h2
    · rw [hS2 1 (by omega), hS1 1 (by omega)]
    · rw [hS2 3 (by omega), hS1 3 (by omega)]
    · rw [hA2 p h1 h2, hA1 p h1]
  · have hm' := hm
    have q1 : ¬ tok = 1 := by rintro rfl; exact absurd hm' (by unfold isMix; decide)
    have q2 : ¬ tok = 2 := by rintro rfl; exact absurd hm' (by unfold isMix; decide)
    have q0 : ¬ tok = 0 := by rintro rfl; exact absurd hm' (by unfold isMix; decide)
    have q3 : ¬ tok ≤ 2 := by rcases hm' with rfl | rfl | rfl | rfl <;> decide
    (repeat (refine zS_one rfl ?_; simp (disch := (first | decide | assumption | omega)) only [i_push, i_null, i_ild, i_ald, i_ist, i_ast, i_inc, i_bin, i_div, i_un, i_dup, i_pop, i_dup2, i_if, i_icmp, i_nul, i_nnl, i_goto, i_getf, i_putf, i_gets, i_nald, i_nast, i_aald, i_aast, i_alen, i_new, i_newa, i_newq, i_math, i_oini, i_iret, i_zret, i_aret, i_vret, z_fit, List.getElem?_cons_zero, List.getElem?_cons_succ, List.set_cons_zero, List.set_cons_succ, Nat.reduceAdd, Nat.reduceLT, Nat.reduceLeDiff, Nat.reduceEqDiff, Nat.zero_lt_succ, Value.category, true_and, or_true, true_or, and_true, false_implies, true_implies, not_false_eq_true, not_true_eq_false, List.map_cons, List.map_nil, List.sum_cons, List.sum_nil, va_up_eq, bx_uu, va_up_lit, List.length_cons, List.length_nil, List.drop_succ_cons, List.drop_zero, Option.toList_some, Option.toList_none, List.cons_append, List.nil_append, q1, q2, q3]))
    (try refine zS_one rfl ?_)
    refine r_callV (c_agree sc (d + 2) hV hn hm) rfl rfl rfl rfl hW.f (Nat.le_refl _) (Nat.le_refl _) ?_
    rintro r h1 ⟨rfl, n1, den1, S1, A1, hV1, hx, hS, hA, hf⟩
    have := hk h1 (some (.int tok)) l5 ⟨n1, den1, S1, A1, by unfold wtok; rw [if_neg q1, if_neg q2, if_neg q0]; exact hV1, by unfold wtok; rw [if_neg q1, if_neg q2, if_neg q0]; exact hB.ext hx (hS 12 (by omega)) (hA 43 (by decide)), ⟨e, he, by unfold wtok; rw [if_neg q1, if_neg q2, if_neg q0], (hS 2 (by omega)).trans h2⟩, hx, ⟨hS 1 (by omega), hS 3 (by omega)⟩, fun p h1 _ => hA p h1, hf⟩
    (iterate 2 (refine zS_one rfl ?_; simp (disch := (first | decide | assumption | omega)) only [i_push, i_null, i_ild, i_ald, i_ist, i_ast, i_inc, i_bin, i_div, i_un, i_dup, i_pop, i_dup2, i_if, i_icmp, i_nul, i_nnl, i_goto, i_getf, i_putf, i_gets, i_nald, i_nast, i_aald, i_aast, i_alen, i_new, i_newa, i_newq, i_math, i_oini, i_iret, i_zret, i_aret, i_vret, z_fit, List.getElem?_cons_zero, List.getElem?_cons_succ, List.set_cons_zero, List.set_cons_succ, Nat.reduceAdd, Nat.reduceLT, Nat.reduceLeDiff, Nat.reduceEqDiff, Nat.zero_lt_succ, Value.category, true_and, or_true, true_or, and_true, false_implies, true_implies, not_false_eq_true, not_true_eq_false, List.map_cons, List.map_nil, List.sum_cons, List.sum_nil, va_up_eq, bx_uu, va_up_lit, List.length_cons, List.length_nil, List.drop_succ_cons, List.drop_zero, Option.toList_some, Option.toList_none, List.cons_append, List.nil_append, nI_1']))
    exact this
end MOE
