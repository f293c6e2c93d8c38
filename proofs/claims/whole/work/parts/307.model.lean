/-- a reading goes on: S, A, n, den were there at first -/
def rdQ (h0 : zH) (S : Nat → Int32) (A : Nat → Nat → Int32) (n : Nat) (den : Nat → zT) (s c : Nat) (l : List zT) (at' : Nat) (I' : Nat → Int32) (Θ' : Nat → zT) (h' : zH) : Prop := ∃ n' den' S' A', RD h' S' A' n' den' s l at' I' Θ' ∧ exM n den n' den' c ∧ (∀ q, q = 1 ∨ q = 2 ∨ q = 3 ∨ q = 4 → S' q = S q) ∧ (∀ p, 20 < p → A' p = A p) ∧ frN h0 h'
theorem TM.vl {A : Nat → Nat → Int32} {n : Nat} {den : Nat → zT} (hT : TM A n den) {t : Nat} (ht : t < n) (hk : tkd (den t) = 1 ∨ tkd (den t) = 2) : A 17 t = tv (den t) := by
  have hr := hT.2.1 t ht
  have e := rw_M_kd hr
  rcases hr with ⟨-, -, -, -, h⟩ | ⟨-, -, -, -, -, h⟩ | ⟨k, -⟩ | ⟨k, -⟩ | ⟨k, -⟩ | ⟨k, -⟩
  · rw [h]; show _ = Int32.ofInt _; exact (Int32.ofInt_toInt _).symm
  · rw [h]; show _ = Int32.ofInt _; exact (Int32.ofInt_toInt _).symm
  · rw [e, k] at hk; exact absurd hk (by decide)
  · rw [e] at hk; rcases k with k | k | k <;> (rw [k] at hk; exact absurd hk (by decide))
  · rw [e, k] at hk; exact absurd hk (by decide)
  · rw [e, k] at hk; exact absurd hk (by decide)
theorem TM.key {A : Nat → Nat → Int32} {n : Nat} {den : Nat → zT} (hT : TM A n den) {t : Nat} (ht : t < n) (hk : tkd (den t) = 2) : key20 (A 17 t) := by
  have hr := hT.2.1 t ht
  have e := rw_M_kd hr
  rcases hr with ⟨k, -⟩ | ⟨-, h, -⟩ | ⟨k, -⟩ | ⟨k, -⟩ | ⟨k, -⟩ | ⟨k, -⟩
  · rw [e, k] at hk; exact absurd hk (by decide)
  · exact h
  · rw [e, k] at hk; exact absurd hk (by decide)
  · rw [e] at hk; rcases k with k | k | k <;> (rw [k] at hk; exact absurd hk (by decide))
  · rw [e, k] at hk; exact absurd hk (by decide)
  · rw [e, k] at hk; exact absurd hk (by decide)
section MO7
variable {h0 : zH} {S : Nat → Int32} {A : Nat → Nat → Int32} {n s at' : Nat} {den : Nat → zT} {I : Nat → Int32} {Θ : Nat → zT} {l : List zT}
set_option maxHeartbeats 4000000 in
theorem take_tail (sc : Nat × (Nat → Int32)) (d : Nat) (hR : RD h0 S A n den s l at' I Θ) (hn : n < 1200) {t u : Nat} {w : Int32} (ht : t < n) (hu : u < n) {P : zP} (hP : ∀ r h', (r = some (.int (nI u)) ∧ ((tkd (den u) = w.toInt ∧ rdQ h0 S A n den s 1 l at' I (hsh Θ (den t)) h') ∨ (tkd (den u) ≠ w.toInt ∧ faQ h0 S A n den 1 h'))) → P r h') : zS (zMt zTab sc (d + 3), (0, 0), sc) k_Mo_take P (115, [some (.ref 15), some (.int w), some (.int (nI t)), some (.int (nI u))], [], h0, 0, 0) := by
  obtain ⟨hV, hB, h13, h14⟩ := id hR
  have hW := hV.1
  (repeat (refine zS_one rfl ?_; simp (disch := (first | decide | assumption | omega)) only [i_push, i_null, i_ild, i_ald, i_ist, i_ast, i_inc, i_bin, i_div, i_un, i_dup, i_pop, i_dup2, i_if, i_icmp, i_nul, i_nnl, i_goto, i_getf, i_putf, i_gets, i_nald, i_nast, i_aald, i_aast, i_alen, i_new, i_newa, i_newq, i_math, i_oini, i_iret, i_zret, i_aret, i_vret, z_fit, List.getElem?_cons_zero, List.getElem?_cons_succ, List.set_cons_zero, List.set_cons_succ, Nat.reduceAdd, Nat.reduceLT, Nat.reduceLeDiff, Nat.reduceEqDiff, Nat.zero_lt_succ, Value.category, true_and, or_true, true_or, and_true, false_implies, true_implies, not_false_eq_true, not_true_eq_false, List.map_cons, List.map_nil, List.sum_cons, List.sum_nil, va_up_eq, bx_uu, va_up_lit, List.length_cons, List.length_nil, List.drop_succ_cons, List.drop_zero, Option.toList_some, Option.toList_none, List.cons_append, List.nil_append]))
  (try refine zS_one rfl ?_)
  refine r_callV (c_mixHash sc d hV hn ht) rfl rfl rfl rfl hW.f (Nat.le_refl _) (Nat.le_refl _) ?_
  rintro r h1 ⟨rfl, n1, den1, S1, A1, hV1, hx, hS, hA, hf⟩
  have hW1 := hV1.1
  have o1 := hW1.o
  have e14 : S1 14 = 0 := (hS 14 (by omega)).trans h14
  have e13 : S1 13 = nI at' := (hS 13 (by omega)).trans h13
  rw [e14] at o1
  have hB1 : pB S1 A1 n1 den1 l := hB.ext hx (hS 12 (by omega)) (hA 43 (by decide))
  have a16 := hW1.a 16 2 1200 (by decide) (by decide) rfl rfl
  have h12 := hW1.2.2.1
  have hu1 : u < n1 := Nat.lt_of_lt_of_le hu hx.1
  have w3 : vp_in (nI u) 1200 := vp_in_nI (by omega) (by decide)
  have w4 : (nI u).toNatClampNeg = u := nI_clamp (by omega)
  have q10 : ¬ (1 : Int32) = 0 := by decide
  have hkd := hW1.2.2.kd hu1 w
  rw [hx.2.2 u hu] at hkd
  by_cases z : A1 16 u = w
  · (repeat (refine zS_one rfl ?_; simp (disch := (first | decide | assumption | omega)) only [i_push, i_null, i_ild, i_ald, i_ist, i_ast, i_inc, i_bin, i_div, i_un, i_dup, i_pop, i_dup2, i_if, i_icmp, i_nul, i_nnl, i_goto, i_getf, i_putf, i_gets, i_nald, i_nast, i_aald, i_aast, i_alen, i_new, i_newa, i_newq, i_math, i_oini, i_iret, i_zret, i_aret, i_vret, z_fit, List.getElem?_cons_zero, List.getElem?_cons_succ, List.set_cons_zero, List.set_cons_succ, Nat.reduceAdd, Nat.reduceLT, Nat.reduceLeDiff, Nat.reduceEqDiff, Nat.zero_lt_succ, Value.category, true_and, or_true, true_or, and_true, false_implies, true_implies, not_false_eq_true, not_true_eq_false, List.map_cons, List.map_nil, List.sum_cons, List.sum_nil, va_up_eq, bx_uu, va_up_lit, List.length_cons, List.length_nil, List.drop_succ_cons, List.drop_zero, Option.toList_some, Option.toList_none, List.cons_append, List.nil_append, o1, a16, w3, w4, z]))
    refine hP _ _ ⟨rfl, Or.inl ⟨hkd.mp z, n1, den1, S1, A1, ⟨hV1.move (c := 0) (hW1.fld ?_ rfl) exM.rf (fun _ _ _ => rfl) (fun _ _ _ => rfl), hB1, e13, e14⟩, hx, fun q hq => ?_, hA, hf.tr (frN.put (by decide) (by decide))⟩⟩
    · unfold mF; rw [e14]
    · rcases hq with rfl | rfl | rfl | rfl
      · exact hS 1 (by omega)
      · exact hS 2 (by omega)
      · exact hS 3 (by omega)
      · exact hV1.2.2.1.trans hV.2.2.1.symm
  · (repeat (refine zS_one rfl ?_; simp (disch := (first | decide | assumption | omega)) only [i_push, i_null, i_ild, i_ald, i_ist, i_ast, i_inc, i_bin, i_div, i_un, i_dup, i_pop, i_dup2, i_if, i_icmp, i_nul, i_nnl, i_goto, i_getf, i_putf, i_gets, i_nald, i_nast, i_aald, i_aast, i_alen, i_new, i_newa, i_newq, i_math, i_oini, i_iret, i_zret, i_aret, i_vret, z_fit, List.getElem?_cons_zero, List.getElem?_cons_succ, List.set_cons_zero, List.set_cons_succ, Nat.reduceAdd, Nat.reduceLT, Nat.reduceLeDiff, Nat.reduceEqDiff, Nat.zero_lt_succ, Value.category, true_and, or_true, true_or, and_true, false_implies, true_implies, not_false_eq_true, not_true_eq_false, List.map_cons, List.map_nil, List.sum_cons, List.sum_nil, va_up_eq, bx_uu, va_up_lit, List.length_cons, List.length_nil, List.drop_succ_cons, List.drop_zero, Option.toList_some, Option.toList_none, List.cons_append, List.nil_append, o1, a16, w3, w4, z]))
    refine hP _ _ ⟨rfl, Or.inr ⟨fun q => z (hkd.mpr q), n1, den1, va_up S1 14 1, A1, hW1.fld ?_ (va_up_lit _ _ _ _ (by decide)), va_up_eq _ _ _, hx, fun q hq => ?_, hA, hf.tr (frN.put (by decide) (by decide))⟩⟩
    · unfold mF; simp (disch := decide) only [va_up_eq, va_up_lit]
    · rw [va_up_lit _ _ _ _ (by omega)]
      rcases hq with rfl | rfl | rfl | rfl
      · exact hS 1 (by omega)
      · exact hS 2 (by omega)
      · exact hS 3 (by omega)
      · exact hV1.2.2.1.trans hV.2.2.1.symm
set_option maxHeartbeats 8000000 in
theorem c_take (sc : Nat × (Nat → Int32)) (d : Nat) (hR : RD h0 S A n den s l at' I Θ) (hat : at' ≤ 4) (hn : n < 1200) (w : Int32) : zMt zTab sc (d + 4) 95 [.ref 15, .int w] h0 0 0 (fun r h' => (∃ u τ Z, r = some (.int (nI u)) ∧ u < n ∧ den u = Z ∧ l[at']? = some τ ∧ opnF I Θ τ = some Z ∧ tkd Z = w.toInt ∧ rdQ h0 S A n den s 1 l (at' + 1) (inc I Θ) (hsh Θ τ) h') ∨ ((∃ v, r = some (.int v)) ∧ (∀ τ Z, l[at']? = some τ → opnF I Θ τ = some Z → tkd Z ≠ w.toInt) ∧ faQ h0 S A n den 1 h')) := by
  refine zM_gen fun P hP => ?_
  refine zM_start (r := r_Mo_take) (cd := k_Mo_take) (L0 := [some (.ref 15), some (.int w), none, none]) rfl rfl rfl rfl rfl ?_
  (repeat (refine zS_one rfl ?_; simp (disch := (first | decide | assumption | omega)) only [i_push, i_null, i_ild, i_ald, i_ist, i_ast, i_inc, i_bin, i_div, i_un, i_dup, i_pop, i_dup2, i_if, i_icmp, i_nul, i_nnl, i_goto, i_getf, i_putf, i_gets, i_nald, i_nast, i_aald, i_aast, i_alen, i_new, i_newa, i_newq, i_math, i_oini, i_iret, i_zret, i_aret, i_vret, z_fit, List.getElem?_cons_zero, List.getElem?_cons_succ, List.set_cons_zero, List.set_cons_succ, Nat.reduceAdd, Nat.reduceLT, Nat.reduceLeDiff, Nat.reduceEqDiff, Nat.zero_lt_succ, Value.category, true_and, or_true, true_or, and_true, false_implies, true_implies, not_false_eq_true, not_true_eq_false, List.map_cons, List.map_nil, List.sum_cons, List.sum_nil, va_up_eq, bx_uu, va_up_lit, List.length_cons, List.length_nil, List.drop_succ_cons, List.drop_zero, Option.toList_some, Option.toList_none, List.cons_append, List.nil_append]))
  (try refine zS_one rfl ?_)
  refine r_callV (c_nextPart sc (d + 2) hR hat) rfl rfl rfl rfl hR.1.1.f (Nat.le_refl _) (Nat.le_refl _) ?_
  rintro r h1 ⟨hR1, hf1, hcase⟩
  have hS1 : ∀ q, q = 1 ∨ q = 2 ∨ q = 3 ∨ q = 4 → va_up S 13 (nI (at' + 1)) q = S q := fun q hq => va_up_lit _ _ _ _ (by omega)
  generalize va_up S 13 (nI (at' + 1)) = S1 at hR1 hS1
  obtain ⟨hV1, hB1, e13, e14⟩ := id hR1
  obtain ⟨hW1, -, -, ⟨x, hx1, hx2, hx3⟩, -, hk, ⟨e8, -⟩, -⟩ := id hV1
  have h12 := hW1.2.2.1
  have o1 := hW1.o
  have bad : ∀ (fs : List Value), fs = mF (va_up S1 14 1) → faQ h0 S A n den 1 (va_up h1.1 15 (.inr (6, fs)), h1.2) := fun fs hfs =>
    ⟨n, den, va_up S1 14 1, A, hW1.fld hfs (va_up_lit _ _ _ _ (by decide)), va_up_eq _ _ _, exM.rf, fun q hq => (va_up_lit _ _ _ _ (by omega)).trans (hS1 q hq), fun _ _ => rfl, hf1.tr (frN.put (by decide) (by decide))⟩
  have n1 : (-1 : Int32) < 0 := by decide
  rcases hcase with ⟨t, τ, hl, rfl, ht, ed⟩ | ⟨rfl, hl⟩
  rotate_left
  · (repeat (refine zS_one rfl ?_; simp (disch := (first | decide | assumption | omega)) only [i_push, i_null, i_ild, i_ald, i_ist, i_ast, i_inc, i_bin, i_div, i_un, i_dup, i_pop, i_dup2, i_if, i_icmp, i_nul, i_nnl, i_goto, i_getf, i_putf, i_gets, i_nald, i_nast, i_aald, i_aast, i_alen, i_new, i_newa, i_newq, i_math, i_oini, i_iret, i_zret, i_aret, i_vret, z_fit, List.getElem?_cons_zero, List.getElem?_cons_succ, List.set_cons_zero, List.set_cons_succ, Nat.reduceAdd, Nat.reduceLT, Nat.reduceLeDiff, Nat.reduceEqDiff, Nat.zero_lt_succ, Value.category, true_and, or_true, true_or, and_true, false_implies, true_implies, not_false_eq_true, not_true_eq_false, List.map_cons, List.map_nil, List.sum_cons, List.sum_nil, va_up_eq, bx_uu, va_up_lit, List.length_cons, List.length_nil, List.drop_succ_cons, List.drop_zero, Option.toList_some, Option.toList_none, List.cons_append, List.nil_append, o1, n1]))
    refine hP _ _ (Or.inr ⟨⟨_, rfl⟩, fun τ Z h => (by rw [hl] at h; cases h), bad _ ?_⟩)
    unfold mF; simp (disch := decide) only [va_up_eq, va_up_lit]
  have w0 : ¬ nI t < 0 := nI_pos (by omega)
  have w3 : vp_in (nI t) 1200 := vp_in_nI (by omega) (by decide)
  have w4 : (nI t).toNatClampNeg = t := nI_clamp (by omega)
  have go : ∀ (u : Nat) (Z : zT) (fs : List Value), u < n → den u = Z → opnF I Θ τ = some Z → fs = mF (va_up S1 8 (inc I Θ 6)) → zS (zMt zTab sc (d + 3), (0, 0), sc) k_Mo_take P (115, [some (.ref 15), some (.int w), some (.int (nI t)), some (.int (nI u))], [], (va_up h1.1 15 (.inr (6, fs)), h1.2), 0, 0) := by
    intro u Z fs hu hZ ho hfs
    have hR2 : RD (va_up h1.1 15 (.inr (6, fs)), h1.2) (va_up S1 8 (inc I Θ 6)) A n den s l (at' + 1) (inc I Θ) Θ := by
      refine ⟨?_, hB1.ext (c := 0) exM.rf (va_up_lit _ _ _ _ (by decide)) rfl, (va_up_lit _ _ _ _ (by decide)).trans e13, (va_up_lit _ _ _ _ (by decide)).trans e14⟩
      obtain ⟨-, z1, z2, z3, z4, z5, ⟨z6, z6a, z6b, z6c⟩, ⟨za, zb, zc, zd⟩, zi⟩ := hV1
      have ti : ∀ q, q ≠ 6 → inc I Θ q = I q := by
        intro q hq
        unfold inc
        split
        · rfl
        · exact va_up_lit _ _ _ _ hq
      refine ⟨hW1.fld hfs (va_up_lit _ _ _ _ (by decide)), z1, (va_up_lit _ _ _ _ (by decide)).trans z2, ?_, ?_, ?_, ⟨va_up_eq _ _ _, ?_, ?_, ?_⟩, ⟨?_, ?_, ?_, ?_⟩, ?_⟩
      · rw [va_up_lit _ _ _ _ (by decide)]; exact z3
      · rw [va_up_lit _ _ _ _ (by decide)]; exact z4
      · rw [va_up_lit _ _ _ _ (by decide)]; exact z5
      · rw [va_up_lit _ _ _ _ (by decide), ti 3 (by decide)]; exact z6a
      · rw [va_up_lit _ _ _ _ (by decide), ti 5 (by decide)]; exact z6b
      · rw [va_up_lit _ _ _ _ (by decide), ti 4 (by decide)]; exact z6c
      · rw [ti 0 (by decide)]; exact za
      · rw [ti 1 (by decide)]; exact zb
      · rw [ti 2 (by decide)]; exact zc
      · rw [ti 7 (by decide)]; exact zd
      · unfold iOK at zi ⊢
        rw [ti 0 (by decide), ti 1 (by decide), ti 2 (by decide), ti 3 (by decide), ti 4 (by decide), ti 5 (by decide), ti 7 (by decide)]
        exact zi
    refine take_tail sc d hR2 hn ht hu (fun r h' hr => hP r h' ?_)
    have tS : ∀ q, q = 1 ∨ q = 2 ∨ q = 3 ∨ q = 4 → va_up S1 8 (inc I Θ 6) q = S q := fun q hq => (va_up_lit _ _ _ _ (by omega)).trans (hS1 q hq)
    have hf2 := hf1.tr (frN.put (h := h1) (p := 15) (e := .inr (6, fs)) (by decide) (by decide))
    rw [hZ, ed] at hr
    obtain ⟨rfl, ⟨hkd, n', den', S', A', g1, g2, g3, g4, g5⟩ | ⟨hkd, n', den', S', A', g1, g1', g2, g3, g4, g5⟩⟩ := hr
    · exact Or.inl ⟨u, τ, Z, rfl, hu, hZ, hl, ho, hkd, n', den', S', A', g1, g2, fun q hq => (g3 q hq).trans (tS q hq), g4, hf2.tr g5⟩
    · refine Or.inr ⟨⟨_, rfl⟩, fun τ' Z' h1 h2 => ?_, n', den', S', A', g1, g1', g2, fun q hq => (g3 q hq).trans (tS q hq), g4, hf2.tr g5⟩
      rw [hl] at h1
      cases h1
      rw [ho] at h2
      cases h2
      exact hkd
  have a16 := hW1.a 16 2 1200 (by decide) (by decide) rfl rfl
  have a17 := hW1.a 17 0 1200 (by decide) (by decide) rfl rfl
  have a18 := hW1.a 18 3 1200 (by decide) (by decide) rfl rfl
  have a19 := hW1.a 19 3 1200 (by decide) (by decide) rfl rfl
  have a20 := hW1.a 20 3 1200 (by decide) (by decide) rfl rfl
  rcases hk with ⟨ek, hk⟩ | ⟨z, hz, ek, edz, hk⟩
  · have n2 : ¬ (0 : Int32) ≤ -1 := by decide
    have i6 : inc I Θ 6 = I 6 := by unfold inc; rw [if_pos hk]
    have ho : opnF I Θ τ = some τ := by unfold opnF; rw [if_pos hk]
    rw [ek, e8] at o1
    (iterate 20 (refine zS_one rfl ?_; simp (disch := (first | decide | assumption | omega)) only [i_push, i_null, i_ild, i_ald, i_ist, i_ast, i_inc, i_bin, i_div, i_un, i_dup, i_pop, i_dup2, i_if, i_icmp, i_nul, i_nnl, i_goto, i_getf, i_putf, i_gets, i_nald, i_nast, i_aald, i_aast, i_alen, i_new, i_newa, i_newq, i_math, i_oini, i_iret, i_zret, i_aret, i_vret, z_fit, List.getElem?_cons_zero, List.getElem?_cons_succ, List.set_cons_zero, List.set_cons_succ, Nat.reduceAdd, Nat.reduceLT, Nat.reduceLeDiff, Nat.reduceEqDiff, Nat.zero_lt_succ, Value.category, true_and, or_true, true_or, and_true, false_implies, true_implies, not_false_eq_true, not_true_eq_false, List.map_cons, List.map_nil, List.sum_cons, List.sum_nil, va_up_eq, bx_uu, va_up_lit, List.length_cons, List.length_nil, List.drop_succ_cons, List.drop_zero, Option.toList_some, Option.toList_none, List.cons_append, List.nil_append, o1, w0, n1, n2]))
    refine go t τ _ ht ed ho ?_
    unfold mF; simp (disch := decide) only [va_up_eq, va_up_lit, i6, ek]
  · have n2 : (0 : Int32) ≤ nI z := nI_pos' (by omega)
    have n3 : ¬ nI z < 0 := nI_pos (by omega)
    have i6 : inc I Θ 6 = I 6 + 1 := by unfold inc; rw [if_neg hk, va_up_eq]
    rw [ek, e8, hx2] at o1
    have ek' : mF (va_up S1 8 (inc I Θ 6)) = mF (va_up (va_up (va_up S1 7 (nI z)) 5 (nI x)) 8 (I 6 + 1)) := by
      unfold mF; simp (disch := decide) only [va_up_eq, va_up_lit, i6, ek, hx2]
    rcases seal_row (I := I) hW1.2.2 ht hz edz hk hx1 hx3 with ⟨c1, c2, c3, c4, v, hv, c5, ho⟩ | ⟨ho, hc⟩
    · rw [ed] at ho
      have v3 : vp_in (nI v) 1200 := vp_in_nI (by omega) (by decide)
      (iterate 50 (refine zS_one rfl ?_; simp (disch := (first | decide | assumption | omega)) only [i_push, i_null, i_ild, i_ald, i_ist, i_ast, i_inc, i_bin, i_div, i_un, i_dup, i_pop, i_dup2, i_if, i_icmp, i_nul, i_nnl, i_goto, i_getf, i_putf, i_gets, i_nald, i_nast, i_aald, i_aast, i_alen, i_new, i_newa, i_newq, i_math, i_oini, i_iret, i_zret, i_aret, i_vret, z_fit, List.getElem?_cons_zero, List.getElem?_cons_succ, List.set_cons_zero, List.set_cons_succ, Nat.reduceAdd, Nat.reduceLT, Nat.reduceLeDiff, Nat.reduceEqDiff, Nat.zero_lt_succ, Value.category, true_and, or_true, true_or, and_true, false_implies, true_implies, not_false_eq_true, not_true_eq_false, List.map_cons, List.map_nil, List.sum_cons, List.sum_nil, va_up_eq, bx_uu, va_up_lit, List.length_cons, List.length_nil, List.drop_succ_cons, List.drop_zero, Option.toList_some, Option.toList_none, List.cons_append, List.nil_append, o1, w0, n2, n3, w3, w4, a16, a17, a18, a19, a20, c1, c2, c3, c4, c5]))
      refine go v _ _ (by omega) rfl ho ?_
      rw [ek']
      unfold mF; simp (disch := decide) only [va_up_eq, va_up_lit]
    · rw [ed] at ho
      have fin : ∀ fs : List Value, fs = mF (va_up (va_up (va_up S1 7 (nI z)) 5 (nI x)) 14 1) → P (some (.int (-1))) (va_up h1.1 15 (.inr (6, fs)), h1.2) := by
        intro fs hfs
        refine hP _ _ (Or.inr ⟨⟨_, rfl⟩, fun τ' Z' h1 h2 => ?_, bad _ ?_⟩)
        · rw [hl] at h1
          cases h1
          rw [ho] at h2
          cases h2
        · rw [hfs]
          unfold mF; simp (disch := decide) only [va_up_eq, va_up_lit, ek, hx2]
      have e8' : va_up (va_up (va_up S1 7 (nI z)) 5 (nI x)) 14 1 8 = I 6 := by
        simp (disch := decide) only [va_up_lit, e8]
      by_cases c1 : A 16 t = 8
      · by_cases c2 : A 18 t = nI z
        · by_cases c3 : A 17 t = I 6
          · have c4 : ¬ A 19 t = nI x := fun c4 => hc ⟨c1, c2, c3, c4⟩
            (repeat (refine zS_one rfl ?_; simp (disch := (first | decide | assumption | omega)) only [i_push, i_null, i_ild, i_ald, i_ist, i_ast, i_inc, i_bin, i_div, i_un, i_dup, i_pop, i_dup2, i_if, i_icmp, i_nul, i_nnl, i_goto, i_getf, i_putf, i_gets, i_nald, i_nast, i_aald, i_aast, i_alen, i_new, i_newa, i_newq, i_math, i_oini, i_iret, i_zret, i_aret, i_vret, z_fit, List.getElem?_cons_zero, List.getElem?_cons_succ, List.set_cons_zero, List.set_cons_succ, Nat.reduceAdd, Nat.reduceLT, Nat.reduceLeDiff, Nat.reduceEqDiff, Nat.zero_lt_succ, Value.category, true_and, or_true, true_or, and_true, false_implies, true_implies, not_false_eq_true, not_true_eq_false, List.map_cons, List.map_nil, List.sum_cons, List.sum_nil, va_up_eq, bx_uu, va_up_lit, List.length_cons, List.length_nil, List.drop_succ_cons, List.drop_zero, Option.toList_some, Option.toList_none, List.cons_append, List.nil_append, o1, w0, n2, n3, w3, w4, a16, a17, a18, a19, a20, c1, c2, c3, c4]))
            refine fin _ ?_
            unfold mF; rw [e8']; simp (disch := decide) only [va_up_eq, va_up_lit]
          · (repeat (refine zS_one rfl ?_; simp (disch := (first | decide | assumption | omega)) only [i_push, i_null, i_ild, i_ald, i_ist, i_ast, i_inc, i_bin, i_div, i_un, i_dup, i_pop, i_dup2, i_if, i_icmp, i_nul, i_nnl, i_goto, i_getf, i_putf, i_gets, i_nald, i_nast, i_aald, i_aast, i_alen, i_new, i_newa, i_newq, i_math, i_oini, i_iret, i_zret, i_aret, i_vret, z_fit, List.getElem?_cons_zero, List.getElem?_cons_succ, List.set_cons_zero, List.set_cons_succ, Nat.reduceAdd, Nat.reduceLT, Nat.reduceLeDiff, Nat.reduceEqDiff, Nat.zero_lt_succ, Value.category, true_and, or_true, true_or, and_true, false_implies, true_implies, not_false_eq_true, not_true_eq_false, List.map_cons, List.map_nil, List.sum_cons, List.sum_nil, va_up_eq, bx_uu, va_up_lit, List.length_cons, List.length_nil, List.drop_succ_cons, List.drop_zero, Option.toList_some, Option.toList_none, List.cons_append, List.nil_append, o1, w0, n2, n3, w3, w4, a16, a17, a18, a19, a20, c1, c2, c3]))
            refine fin _ ?_
            unfold mF; rw [e8']; simp (disch := decide) only [va_up_eq, va_up_lit]
        · (repeat (refine zS_one rfl ?_; simp (disch := (first | decide | assumption | omega)) only [i_push, i_null, i_ild, i_ald, i_ist, i_ast, i_inc, i_bin, i_div, i_un, i_dup, i_pop, i_dup2, i_if, i_icmp, i_nul, i_nnl, i_goto, i_getf, i_putf, i_gets, i_nald, i_nast, i_aald, i_aast, i_alen, i_new, i_newa, i_newq, i_math, i_oini, i_iret, i_zret, i_aret, i_vret, z_fit, List.getElem?_cons_zero, List.getElem?_cons_succ, List.set_cons_zero, List.set_cons_succ, Nat.reduceAdd, Nat.reduceLT, Nat.reduceLeDiff, Nat.reduceEqDiff, Nat.zero_lt_succ, Value.category, true_and, or_true, true_or, and_true, false_implies, true_implies, not_false_eq_true, not_true_eq_false, List.map_cons, List.map_nil, List.sum_cons, List.sum_nil, va_up_eq, bx_uu, va_up_lit, List.length_cons, List.length_nil, List.drop_succ_cons, List.drop_zero, Option.toList_some, Option.toList_none, List.cons_append, List.nil_append, o1, w0, n2, n3, w3, w4, a16, a17, a18, a19, a20, c1, c2]))
          refine fin _ ?_
          unfold mF; rw [e8']; simp (disch := decide) only [va_up_eq, va_up_lit]
      · (repeat (refine zS_one rfl ?_; simp (disch := (first | decide | assumption | omega)) only [i_push, i_null, i_ild, i_ald, i_ist, i_ast, i_inc, i_bin, i_div, i_un, i_dup, i_pop, i_dup2, i_if, i_icmp, i_nul, i_nnl, i_goto, i_getf, i_putf, i_gets, i_nald, i_nast, i_aald, i_aast, i_alen, i_new, i_newa, i_newq, i_math, i_oini, i_iret, i_zret, i_aret, i_vret, z_fit, List.getElem?_cons_zero, List.getElem?_cons_succ, List.set_cons_zero, List.set_cons_succ, Nat.reduceAdd, Nat.reduceLT, Nat.reduceLeDiff, Nat.reduceEqDiff, Nat.zero_lt_succ, Value.category, true_and, or_true, true_or, and_true, false_implies, true_implies, not_false_eq_true, not_true_eq_false, List.map_cons, List.map_nil, List.sum_cons, List.sum_nil, va_up_eq, bx_uu, va_up_lit, List.length_cons, List.length_nil, List.drop_succ_cons, List.drop_zero, Option.toList_some, Option.toList_none, List.cons_append, List.nil_append, o1, w0, n2, n3, w3, w4, a16, a17, a18, a19, a20, c1]))
        refine fin _ ?_
        unfold mF; rw [e8']; simp (disch := decide) only [va_up_eq, va_up_lit]
end MO7
