theorem rtok_at {tok : Int32} {l : List zT} {s q : zR3} (h : rtok tok l s = some q) : q.2.2 = s.2.2 + isES tok := by
  unfold rtok at h
  split at h
  · rename_i hc
    unfold isES
    rw [if_pos hc]
    split at h
    · cases hr : rk tok s.1 s.2.1 _ with
      | none => rw [hr] at h; cases h
      | some v => rw [hr] at h; cases h; rfl
    · cases h
  · rename_i hc
    unfold isES
    rw [if_neg hc]
    split at h <;> (cases h; rfl)
/-- some terms more, all else as it was -/
def fwQ (h0 : zH) (S : Nat → Int32) (A : Nat → Nat → Int32) (n : Nat) (den : Nat → zT) (c : Nat) (h' : zH) : Prop := ∃ n' den' S' A', MW h' S' A' n' den' ∧ exM n den n' den' c ∧ (∀ q, q = 1 ∨ q = 2 ∨ q = 3 ∨ q = 4 → S' q = S q) ∧ (∀ p, 20 < p → A' p = A p) ∧ frN h0 h'
theorem faQ.fw {h0 : zH} {S : Nat → Int32} {A : Nat → Nat → Int32} {n c : Nat} {den : Nat → zT} {h' : zH} (h : faQ h0 S A n den c h') : fwQ h0 S A n den c h' := by
  obtain ⟨n', den', S', A', h1, -, h2, h3, h4, h5⟩ := h
  exact ⟨n', den', S', A', h1, h2, h3, h4, h5⟩
theorem fwQ.up {h0 h1 : zH} {S S1 : Nat → Int32} {A A1 : Nat → Nat → Int32} {n n1 c c' : Nat} {den den1 : Nat → zT} {h' : zH} (h : fwQ h1 S1 A1 n1 den1 c' h') (hx : exM n den n1 den1 c) (hS : ∀ q, q = 1 ∨ q = 2 ∨ q = 3 ∨ q = 4 → S1 q = S q) (hA : ∀ p, 20 < p → A1 p = A p) (hf : frN h0 h1) {e : Nat} (he : c + c' ≤ e) : fwQ h0 S A n den e h' := by
  obtain ⟨n', den', S', A', g1, g2, g3, g4, g5⟩ := h
  have hx' := hx.tr g2
  exact ⟨n', den', S', A', g1, ⟨hx'.1, by have := hx'.2.1; omega, hx'.2.2⟩, fun q hq => (g3 q hq).trans (hS q hq), fun p hp => (g4 p hp).trans (hA p hp), hf.tr g5⟩
theorem rdQ.up {h0 h1 : zH} {S S1 : Nat → Int32} {A A1 : Nat → Nat → Int32} {n n1 s c c' at' : Nat} {den den1 : Nat → zT} {l : List zT} {I : Nat → Int32} {Θ : Nat → zT} {h' : zH} (h : rdQ h1 S1 A1 n1 den1 s c' l at' I Θ h') (hx : exM n den n1 den1 c) (hS : ∀ q, q = 1 ∨ q = 2 ∨ q = 3 ∨ q = 4 → S1 q = S q) (hA : ∀ p, 20 < p → A1 p = A p) (hf : frN h0 h1) {e : Nat} (he : c + c' ≤ e) : rdQ h0 S A n den s e l at' I Θ h' := by
  obtain ⟨n', den', S', A', g1, g2, g3, g4, g5⟩ := h
  have hx' := hx.tr g2
  exact ⟨n', den', S', A', g1, ⟨hx'.1, by have := hx'.2.1; omega, hx'.2.2⟩, fun q hq => (g3 q hq).trans (hS q hq), fun p hp => (g4 p hp).trans (hA p hp), hf.tr g5⟩
section MO9
variable {h0 : zH} {S : Nat → Int32} {A : Nat → Nat → Int32} {n s at' : Nat} {den : Nat → zT} {I : Nat → Int32} {Θ : Nat → zT} {l : List zT}
set_option maxHeartbeats 4000000 in
theorem run_fail {c : Nat} {h : zH} (sc : Nat × (Nat → Int32)) (d : Nat) (hF : faQ h0 S A n den c h) {i : Nat} (hi : i ≤ 4) {P : zP} (l3 l4 : Option Value) (hP : P (some (.int (-1))) h) : zS (zMt zTab sc (d + 4), (0, 0), sc) k_Mo_run P (2, [some (.ref 15), some (.int (nI s)), some (.int (nI i)), l3, l4], [], h, 0, 0) := by
  obtain ⟨n', den', S', A', hW, h14, -⟩ := hF
  have o := hW.o
  rw [h14] at o
  have q10 : ¬ (1 : Int32) = 0 := by decide
  by_cases z : i = 4
  · subst z
    have w : (4 : Int32) ≤ nI 4 := by decide
    (repeat (refine zS_one rfl ?_; simp (disch := (first | decide | assumption | omega)) only [i_push, i_null, i_ild, i_ald, i_ist, i_ast, i_inc, i_bin, i_div, i_un, i_dup, i_pop, i_dup2, i_if, i_icmp, i_nul, i_nnl, i_goto, i_getf, i_putf, i_gets, i_nald, i_nast, i_aald, i_aast, i_alen, i_new, i_newa, i_newq, i_math, i_oini, i_iret, i_zret, i_aret, i_vret, z_fit, List.getElem?_cons_zero, List.getElem?_cons_succ, List.set_cons_zero, List.set_cons_succ, Nat.reduceAdd, Nat.reduceLT, Nat.reduceLeDiff, Nat.reduceEqDiff, Nat.zero_lt_succ, Value.category, true_and, or_true, true_or, and_true, false_implies, true_implies, not_false_eq_true, not_true_eq_false, List.map_cons, List.map_nil, List.sum_cons, List.sum_nil, va_up_eq, bx_uu, va_up_lit, List.length_cons, List.length_nil, List.drop_succ_cons, List.drop_zero, Option.toList_some, Option.toList_none, List.cons_append, List.nil_append, o, w, q10]))
    exact hP
  · have w : ¬ (4 : Int32) ≤ nI i := by
      rcases (show i = 0 ∨ i = 1 ∨ i = 2 ∨ i = 3 by omega) with rfl | rfl | rfl | rfl <;> decide
    (repeat (refine zS_one rfl ?_; simp (disch := (first | decide | assumption | omega)) only [i_push, i_null, i_ild, i_ald, i_ist, i_ast, i_inc, i_bin, i_div, i_un, i_dup, i_pop, i_dup2, i_if, i_icmp, i_nul, i_nnl, i_goto, i_getf, i_putf, i_gets, i_nald, i_nast, i_aald, i_aast, i_alen, i_new, i_newa, i_newq, i_math, i_oini, i_iret, i_zret, i_aret, i_vret, z_fit, List.getElem?_cons_zero, List.getElem?_cons_succ, List.set_cons_zero, List.set_cons_succ, Nat.reduceAdd, Nat.reduceLT, Nat.reduceLeDiff, Nat.reduceEqDiff, Nat.zero_lt_succ, Value.category, true_and, or_true, true_or, and_true, false_implies, true_implies, not_false_eq_true, not_true_eq_false, List.map_cons, List.map_nil, List.sum_cons, List.sum_nil, va_up_eq, bx_uu, va_up_lit, List.length_cons, List.length_nil, List.drop_succ_cons, List.drop_zero, Option.toList_some, Option.toList_none, List.cons_append, List.nil_append, o, w, q10]))
    exact hP
set_option maxHeartbeats 4000000 in
theorem run_end (sc : Nat × (Nat → Int32)) (d : Nat) (hR : RD h0 S A n den s l at' I Θ) (hat : at' ≤ 4) (hn : n < 1200) {P : zP} (l3 l4 : Option Value)
    (hP : ∀ r h', ((∃ u Z τ, r = some (.int (nI u)) ∧ u < n ∧ den u = Z ∧ tkd Z = 1 ∧ rpay l (I, Θ, at') = some (va_up (inc I Θ) 7 (I 7 + 1), hsh Θ τ, Z) ∧ l.length = at' + 1 ∧ rdQ h0 S A n den s 1 l (at' + 1) (inc I Θ) (hsh Θ τ) h') ∨ (r = some (.int (-1)) ∧ (rpay l (I, Θ, at') = none ∨ l.length ≠ at' + 1) ∧ fwQ h0 S A n den 1 h')) → P r h') :
    zS (zMt zTab sc (d + 4), (0, 0), sc) k_Mo_run P (2, [some (.ref 15), some (.int (nI s)), some (.int (nI 4)), l3, l4], [], h0, 0, 0) := by
  obtain ⟨hV, hB, e13, e14⟩ := id hR
  have hW := hV.1
  have o := hW.o
  rw [e14] at o
  have q10 : ¬ (1 : Int32) = 0 := by decide
  have w : (4 : Int32) ≤ nI 4 := by decide
  (repeat (refine zS_one rfl ?_; simp (disch := (first | decide | assumption | omega)) only [i_push, i_null, i_ild, i_ald, i_ist, i_ast, i_inc, i_bin, i_div, i_un, i_dup, i_pop, i_dup2, i_if, i_icmp, i_nul, i_nnl, i_goto, i_getf, i_putf, i_gets, i_nald, i_nast, i_aald, i_aast, i_alen, i_new, i_newa, i_newq, i_math, i_oini, i_iret, i_zret, i_aret, i_vret, z_fit, List.getElem?_cons_zero, List.getElem?_cons_succ, List.set_cons_zero, List.set_cons_succ, Nat.reduceAdd, Nat.reduceLT, Nat.reduceLeDiff, Nat.reduceEqDiff, Nat.zero_lt_succ, Value.category, true_and, or_true, true_or, and_true, false_implies, true_implies, not_false_eq_true, not_true_eq_false, List.map_cons, List.map_nil, List.sum_cons, List.sum_nil, va_up_eq, bx_uu, va_up_lit, List.length_cons, List.length_nil, List.drop_succ_cons, List.drop_zero, Option.toList_some, Option.toList_none, List.cons_append, List.nil_append, o, w]))
  (try refine zS_one rfl ?_)
  refine r_callV (c_take sc d hR hat hn 1) rfl rfl rfl rfl hW.f (Nat.le_refl _) (Nat.le_refl _) ?_
  rintro r h1 (⟨u, τ, Z, rfl, hu, hZ, hl, ho, hkd, hq⟩ | ⟨⟨v, rfl⟩, hno, hfa⟩)
  · obtain ⟨n1, den1, S1, A1, hR1, hx, hS, hA, hf⟩ := id hq
    obtain ⟨hV1, hB1, f13, f14⟩ := id hR1
    have o1 := hV1.1.o
    rw [f14, f13, hB1.1] at o1
    have hl3 := hB1.2.1
    have hk1 : tkd Z = 1 := hkd
    have hrp : rpay l (I, Θ, at') = some (va_up (inc I Θ) 7 (I 7 + 1), hsh Θ τ, Z) := by
      unfold rpay
      simp only [hl, ho]
      rw [if_pos hk1]
    by_cases z : l.length = at' + 1
    · have w5 : nI (at' + 1) = nI l.length := by rw [z]
      (repeat (refine zS_one rfl ?_; simp (disch := (first | decide | assumption | omega)) only [i_push, i_null, i_ild, i_ald, i_ist, i_ast, i_inc, i_bin, i_div, i_un, i_dup, i_pop, i_dup2, i_if, i_icmp, i_nul, i_nnl, i_goto, i_getf, i_putf, i_gets, i_nald, i_nast, i_aald, i_aast, i_alen, i_new, i_newa, i_newq, i_math, i_oini, i_iret, i_zret, i_aret, i_vret, z_fit, List.getElem?_cons_zero, List.getElem?_cons_succ, List.set_cons_zero, List.set_cons_succ, Nat.reduceAdd, Nat.reduceLT, Nat.reduceLeDiff, Nat.reduceEqDiff, Nat.zero_lt_succ, Value.category, true_and, or_true, true_or, and_true, false_implies, true_implies, not_false_eq_true, not_true_eq_false, List.map_cons, List.map_nil, List.sum_cons, List.sum_nil, va_up_eq, bx_uu, va_up_lit, List.length_cons, List.length_nil, List.drop_succ_cons, List.drop_zero, Option.toList_some, Option.toList_none, List.cons_append, List.nil_append, o1, w5]))
      exact hP _ _ (Or.inl ⟨u, Z, τ, rfl, hu, hZ, hk1, hrp, z, hq⟩)
    · have w5 : ¬ nI (at' + 1) = nI l.length := fun q => z (nI_inj (by omega) (by omega) q).symm
      (repeat (refine zS_one rfl ?_; simp (disch := (first | decide | assumption | omega)) only [i_push, i_null, i_ild, i_ald, i_ist, i_ast, i_inc, i_bin, i_div, i_un, i_dup, i_pop, i_dup2, i_if, i_icmp, i_nul, i_nnl, i_goto, i_getf, i_putf, i_gets, i_nald, i_nast, i_aald, i_aast, i_alen, i_new, i_newa, i_newq, i_math, i_oini, i_iret, i_zret, i_aret, i_vret, z_fit, List.getElem?_cons_zero, List.getElem?_cons_succ, List.set_cons_zero, List.set_cons_succ, Nat.reduceAdd, Nat.reduceLT, Nat.reduceLeDiff, Nat.reduceEqDiff, Nat.zero_lt_succ, Value.category, true_and, or_true, true_or, and_true, false_implies, true_implies, not_false_eq_true, not_true_eq_false, List.map_cons, List.map_nil, List.sum_cons, List.sum_nil, va_up_eq, bx_uu, va_up_lit, List.length_cons, List.length_nil, List.drop_succ_cons, List.drop_zero, Option.toList_some, Option.toList_none, List.cons_append, List.nil_append, o1, w5]))
      exact hP _ _ (Or.inr ⟨rfl, Or.inr z, n1, den1, S1, A1, hV1.1, hx, hS, hA, hf⟩)
  · obtain ⟨n1, den1, S1, A1, hW1, f14, -⟩ := id hfa
    have o1 := hW1.o
    rw [f14] at o1
    have hrp : rpay l (I, Θ, at') = none := by
      unfold rpay
      cases hl : l[at']? with
      | none => simp only [hl]
      | some τ =>
        simp only [hl]
        cases ho : opnF I Θ τ with
        | none => simp only [ho]
        | some Z =>
          simp only [ho]
          rw [if_neg (show ¬ tkd Z = 1 from hno τ Z hl ho)]
    (repeat (refine zS_one rfl ?_; simp (disch := (first | decide | assumption | omega)) only [i_push, i_null, i_ild, i_ald, i_ist, i_ast, i_inc, i_bin, i_div, i_un, i_dup, i_pop, i_dup2, i_if, i_icmp, i_nul, i_nnl, i_goto, i_getf, i_putf, i_gets, i_nald, i_nast, i_aald, i_aast, i_alen, i_new, i_newa, i_newq, i_math, i_oini, i_iret, i_zret, i_aret, i_vret, z_fit, List.getElem?_cons_zero, List.getElem?_cons_succ, List.set_cons_zero, List.set_cons_succ, Nat.reduceAdd, Nat.reduceLT, Nat.reduceLeDiff, Nat.reduceEqDiff, Nat.zero_lt_succ, Value.category, true_and, or_true, true_or, and_true, false_implies, true_implies, not_false_eq_true, not_true_eq_false, List.map_cons, List.map_nil, List.sum_cons, List.sum_nil, va_up_eq, bx_uu, va_up_lit, List.length_cons, List.length_nil, List.drop_succ_cons, List.drop_zero, Option.toList_some, Option.toList_none, List.cons_append, List.nil_append, o1, q10]))
    exact hP _ _ (Or.inr ⟨rfl, Or.inl hrp, hfa.fw⟩)
set_option maxHeartbeats 4000000 in
theorem c_run (sc : Nat × (Nat → Int32)) (d : Nat) (hR : RD h0 S A n den s l 0 I Θ) (hn : n + 13 ≤ 1200) {p st : Nat} (e0 : I 0 = nI p) (e7 : I 7 = nI st) (hr : p * 3 + st ≤ 4) (hst : st < 3) : zMt zTab sc (d + 5) 103 [.ref 15, .int (nI s)] h0 0 0 (fun r h' =>
    (∃ u Z I' Θ' n' den' S' A', r = some (.int (nI u)) ∧ u < n' ∧ den' u = Z ∧ tkd Z = 1 ∧ rfin (p * 3 + st) l I Θ = some (va_up I' 7 (I' 7 + 1), Θ', Z) ∧ MV h' S' A' n' den' s I' Θ' ∧ exM n den n' den' 13 ∧ (∀ q, q = 1 ∨ q = 2 ∨ q = 3 ∨ q = 4 → S' q = S q) ∧ (∀ p, 20 < p → A' p = A p) ∧ frN h0 h')
    ∨ (r = some (.int (-1)) ∧ rfin (p * 3 + st) l I Θ = none ∧ fwQ h0 S A n den 13 h')) := by
  have hs := hR.1.2.1
  have e25 : A 25 s = nI p := hR.1.2.2.2.2.2.2.2.1.1.trans e0
  have e35 : A 35 s = nI st := hR.1.2.2.2.2.2.2.2.1.2.2.2.trans e7
  refine zM_gen fun P hP => ?_
  refine zM_start (r := r_Mo_run) (cd := k_Mo_run) (L0 := [some (.ref 15), some (.int (nI s)), none, none, none]) rfl rfl rfl rfl rfl ?_
  have i0 : (0 : Int32) = nI 0 := rfl
  have key : ∀ l3 l4 : Option Value, zS (zMt zTab sc (d + 4), (0, 0), sc) k_Mo_run P (2, [some (.ref 15), some (.int (nI s)), some (.int (nI 0)), l3, l4], [], h0, 0, 0) := by
    intro l3 l4
    have isz : ∀ t : Int32, isES t ≤ 1 := fun t => by unfold isES; split <;> omega
    have bad : ∀ {o : Option zR3} {h' : zH}, rrow (p * 3 + st) l (I, Θ, 0) = none → fwQ h0 S A n den 13 h' → P (some (.int (-1))) h' := fun hn hf => hP _ _ (Or.inr ⟨rfl, by unfold rfin; split; rw [hn]; rfl; rfl, hf⟩)
    refine run_step sc d hR (by omega) (i := 0) (by decide) (by decide) e25 e35 hr hst l3 l4 (fun h1 l3 l4 hq => ?_)
    rcases hq with ⟨q1, g1, n1, den1, S1, A1, hR1, hx1, hS1, hA1, hf1⟩ | ⟨g1, hfa⟩
    rotate_left
    · refine run_fail sc d hfa (i := 1) (by decide) l3 l4 (bad (o := none) ?_ (hfa.fw.up (c := 0) exM.rf (fun _ _ => rfl) (fun _ _ => rfl) frN.rf (e := 13) (by decide)))
      unfold rrow
      rw [g1]
      rfl
    have t1 : q1.2.2 = 0 + isES (z_tok ((p * 3 + st) * 4 + 0)) := rtok_at g1
    have b1 := isz (z_tok ((p * 3 + st) * 4 + 0))
    have m1 : n1 ≤ n + 3 := hx1.2.1
    refine run_step sc d hR1 (by omega) (i := 1) (by omega) (by decide) (by rw [hA1 25 (by decide)]; exact e25) (by rw [hA1 35 (by decide)]; exact e35) hr hst l3 l4 (fun h2 l3 l4 hq => ?_)
    rcases hq with ⟨q2, g2, n2, den2, S2, A2, hR2, hx2, hS2, hA2, hf2⟩ | ⟨g2, hfa⟩
    rotate_left
    · refine run_fail sc d hfa (i := 2) (by decide) l3 l4 (bad (o := none) ?_ (hfa.fw.up hx1 hS1 hA1 hf1 (e := 13) (by decide)))
      unfold rrow
      rw [g1]
      show (((rtok _ l q1).bind _).bind _) = none
      rw [g2]
      rfl
    have t2 : q2.2.2 = q1.2.2 + isES (z_tok ((p * 3 + st) * 4 + 1)) := rtok_at g2
    have b2 := isz (z_tok ((p * 3 + st) * 4 + 1))
    have m2 : n2 ≤ n1 + 3 := hx2.2.1
    have X2 := hx1.tr hx2
    have SS2 : ∀ q, q = 1 ∨ q = 2 ∨ q = 3 ∨ q = 4 → S2 q = S q := fun q hq => (hS2 q hq).trans (hS1 q hq)
    have AA2 : ∀ p, 20 < p → A2 p = A p := fun p hp => (hA2 p hp).trans (hA1 p hp)
    have F2 := hf1.tr hf2
    refine run_step sc d hR2 (by omega) (i := 2) (by omega) (by decide) (by rw [AA2 25 (by decide)]; exact e25) (by rw [AA2 35 (by decide)]; exact e35) hr hst l3 l4 (fun h3 l3 l4 hq => ?_)
    rcases hq with ⟨q3, g3, n3, den3, S3, A3, hR3, hx3, hS3, hA3, hf3⟩ | ⟨g3, hfa⟩
    rotate_left
    · refine run_fail sc d hfa (i := 3) (by decide) l3 l4 (bad (o := none) ?_ (hfa.fw.up X2 SS2 AA2 F2 (e := 13) (by decide)))
      unfold rrow
      rw [g1]
      show (((rtok _ l q1).bind _).bind _) = none
      rw [g2]
      show ((rtok _ l q2).bind _) = none
      rw [g3]
      rfl
    have t3 : q3.2.2 = q2.2.2 + isES (z_tok ((p * 3 + st) * 4 + 2)) := rtok_at g3
    have b3 := isz (z_tok ((p * 3 + st) * 4 + 2))
    have m3 : n3 ≤ n2 + 3 := hx3.2.1
    have X3 := X2.tr hx3
    have SS3 : ∀ q, q = 1 ∨ q = 2 ∨ q = 3 ∨ q = 4 → S3 q = S q := fun q hq => (hS3 q hq).trans (SS2 q hq)
    have AA3 : ∀ p, 20 < p → A3 p = A p := fun p hp => (hA3 p hp).trans (AA2 p hp)
    have F3 := F2.tr hf3
    refine run_step sc d hR3 (by omega) (i := 3) (by omega) (by decide) (by rw [AA3 25 (by decide)]; exact e25) (by rw [AA3 35 (by decide)]; exact e35) hr hst l3 l4 (fun h4 l3 l4 hq => ?_)
    rcases hq with ⟨q4, g4, n4, den4, S4, A4, hR4, hx4, hS4, hA4, hf4⟩ | ⟨g4, hfa⟩
    rotate_left
    · refine run_fail sc d hfa (i := 4) (by decide) l3 l4 (bad (o := none) ?_ (hfa.fw.up X3 SS3 AA3 F3 (e := 13) (by decide)))
      unfold rrow
      rw [g1]
      show (((rtok _ l q1).bind _).bind _) = none
      rw [g2]
      show ((rtok _ l q2).bind _) = none
      rw [g3]
      exact g4
    have t4 : q4.2.2 = q3.2.2 + isES (z_tok ((p * 3 + st) * 4 + 3)) := rtok_at g4
    have b4 := isz (z_tok ((p * 3 + st) * 4 + 3))
    have m4 : n4 ≤ n3 + 3 := hx4.2.1
    have X4 := X3.tr hx4
    have SS4 : ∀ q, q = 1 ∨ q = 2 ∨ q = 3 ∨ q = 4 → S4 q = S q := fun q hq => (hS4 q hq).trans (SS3 q hq)
    have AA4 : ∀ p, 20 < p → A4 p = A p := fun p hp => (hA4 p hp).trans (AA3 p hp)
    have F4 := F3.tr hf4
    have hrow : rrow (p * 3 + st) l (I, Θ, 0) = some q4 := by
      unfold rrow
      rw [g1]
      show (((rtok _ l q1).bind _).bind _) = _
      rw [g2]
      show ((rtok _ l q2).bind _) = _
      rw [g3]
      exact g4
    have hpc : pcn (p * 3 + st) = q4.2.2 + 1 := by
      unfold pcn
      omega
    refine run_end sc d hR4 (by omega) (by omega) l3 l4 (fun r h' hr' => ?_)
    rcases hr' with ⟨u, Z, τ, rfl, hu, hZ, hkd, hrp, hlen, hq⟩ | ⟨rfl, hno, hfw⟩
    · obtain ⟨n5, den5, S5, A5, hR5, hx5, hS5, hA5, hf5⟩ := hq
      refine hP _ _ (Or.inl ⟨u, Z, inc q4.1 q4.2.1, hsh q4.2.1 τ, n5, den5, S5, A5, rfl, Nat.lt_of_lt_of_le hu hx5.1, (hx5.2.2 u hu).trans hZ, hkd, ?_, hR5.1, X4.tr hx5, fun q hq => (hS5 q hq).trans (SS4 q hq), fun p hp => (hA5 p hp).trans (AA4 p hp), F4.tr hf5⟩)
      unfold rfin
      rw [if_pos (hlen.trans hpc.symm), hrow]
      show rpay l q4 = _
      have e7' : inc q4.1 q4.2.1 7 = q4.1 7 := by
        unfold inc
        split
        · rfl
        · exact va_up_lit _ _ _ _ (by decide)
      rw [e7']
      exact hrp
    · refine hP _ _ (Or.inr ⟨rfl, ?_, hfw.up X4 SS4 AA4 F4 (e := 13) (by decide)⟩)
      unfold rfin
      split
      · rename_i hlen
        rw [hrow]
        show rpay l q4 = none
        rcases hno with hno | hno
        · exact hno
        · exact absurd (hlen.trans hpc) hno
      · rfl
  have := key none none
  (iterate 2 (refine zS_one rfl ?_; simp (disch := (first | decide | assumption | omega)) only [i_push, i_null, i_ild, i_ald, i_ist, i_ast, i_inc, i_bin, i_div, i_un, i_dup, i_pop, i_dup2, i_if, i_icmp, i_nul, i_nnl, i_goto, i_getf, i_putf, i_gets, i_nald, i_nast, i_aald, i_aast, i_alen, i_new, i_newa, i_newq, i_math, i_oini, i_iret, i_zret, i_aret, i_vret, z_fit, List.getElem?_cons_zero, List.getElem?_cons_succ, List.set_cons_zero, List.set_cons_succ, Nat.reduceAdd, Nat.reduceLT, Nat.reduceLeDiff, Nat.reduceEqDiff, Nat.zero_lt_succ, Value.category, true_and, or_true, true_or, and_true, false_implies, true_implies, not_false_eq_true, not_true_eq_false, List.map_cons, List.map_nil, List.sum_cons, List.sum_nil, va_up_eq, bx_uu, va_up_lit, List.length_cons, List.length_nil, List.drop_succ_cons, List.drop_zero, Option.toList_some, Option.toList_none, List.cons_append, List.nil_append, nI_1]))
  exact this
end MO9
