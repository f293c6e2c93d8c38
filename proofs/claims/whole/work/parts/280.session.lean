/-! Session at a place b from 44 on: channel b + 1 (its row b + 2), agreement b + 3, draft b + 4. I 8 .. 13: closed, ticks, latestPayload, payloadCount, sent, top. -/
def sF (b : Nat) (I : Nat → Int32) : List Value := [.ref 1, .ref (b + 1), .ref (b + 3), .ref (b + 4), .int (I 8), .int (I 9), .int (I 10), .int (I 11)]
def keyed (n : Nat) (den : Nat → zT) (I : Nat → Int32) (Θ : Nat → zT) (sk rk : Nat) : Prop := (0 < sk ∧ sk ≤ n ∧ den sk = skT I Θ) ∧ (0 < rk ∧ rk ≤ n ∧ den rk = rkT I Θ)
/-- a session; w: whether its channel has its keys -/
def sOKw (w : Prop) (h : zH) (b n : Nat) (den : Nat → zT) (I : Nat → Int32) (Θ : Nat → zT) (K : Nat → Int32) : Prop :=
  h.1 b = .inr (3, sF b I) ∧ (∃ sk rk, h.1 (b + 1) = .inr (1, cF (b + 1) sk rk I) ∧ (w → keyed n den I Θ sk rk)) ∧ h.1 (b + 1 + 1) = .inl (1, 60, .inl K) ∧ aOK h (b + 3) n den I Θ ∧ aAny h (b + 4) ∧ (I 8 = 0 ∨ I 8 = 1)
def sOK (h : zH) (b n : Nat) (den : Nat → zT) (I : Nat → Int32) (Θ : Nat → zT) (K : Nat → Int32) : Prop := sOKw (¬ I 7 < lim I) h b n den I Θ K
def frS (b : Nat) (h h' : zH) : Prop := (∀ q, ¬ (1 ≤ q ∧ q ≤ 13) → ¬ (b ≤ q ∧ q ≤ b + 4) → h'.1 q = h.1 q) ∧ h'.2 = h.2
theorem frS.rf {b : Nat} {h : zH} : frS b h h := ⟨fun _ _ _ => rfl, rfl⟩
theorem frS.tr {b : Nat} {h h1 h2 : zH} (x : frS b h h1) (y : frS b h1 h2) : frS b h h2 := ⟨fun q h1 h2 => (y.1 q h1 h2).trans (x.1 q h1 h2), y.2.trans x.2⟩
theorem frA.S {a b : Nat} {h h' : zH} (x : frA a h h') (h1 : b ≤ a) (h2 : a ≤ b + 4) : frS b h h' := ⟨fun q g1 g2 => x.1 q g1 (by omega), x.2⟩
theorem frC.S {b : Nat} {h h' : zH} (x : frC (b + 1) h h') : frS b h h' := ⟨fun q g1 g2 => x.1 q g1 (by omega) (by omega), x.2⟩
theorem fr.S {lo hi b : Nat} {h h' : zH} (x : fr lo hi h h') (h1 : 1 ≤ lo) (h2 : hi ≤ 13) : frS b h h' := ⟨fun q g _ => x.1 q (by omega), x.2⟩
theorem frS_set {h : zH} {b a : Nat} {e : va_E} (h1 : b ≤ a) (h2 : a ≤ b + 4) : frS b h (va_up h.1 a e, h.2) := ⟨fun q _ g => va_up_lit _ _ _ _ (by omega), rfl⟩
theorem keyed.ext {n n' c : Nat} {den den' : Nat → zT} {I : Nat → Int32} {Θ : Nat → zT} {sk rk : Nat} (h : keyed n den I Θ sk rk) (he : exq n den n' den' c) : keyed n' den' I Θ sk rk := by
  obtain ⟨⟨s1, s2, s3⟩, ⟨r1, r2, r3⟩⟩ := h
  obtain ⟨g1, g2, g3⟩ := he
  exact ⟨⟨s1, by omega, by rw [g3 sk s1 s2]; exact s3⟩, ⟨r1, by omega, by rw [g3 rk r1 r2]; exact r3⟩⟩
/-- other sessions stay -/
theorem sOK.ext {h h' : zH} {b n n' c : Nat} {den den' : Nat → zT} {I : Nat → Int32} {Θ : Nat → zT} {K : Nat → Int32} {w : Prop} (hs : sOKw w h b n den I Θ K) (he : exq n den n' den' c) (hq : ∀ q, b ≤ q → q ≤ b + 4 → h'.1 q = h.1 q) : sOKw w h' b n' den' I Θ K := by
  obtain ⟨e1, ⟨sk, rk, e2, hk⟩, e3, hA, ⟨J, hJ, eJ⟩, h8⟩ := hs
  exact ⟨(hq b (by omega) (by omega)).trans e1, ⟨sk, rk, (hq _ (by omega) (by omega)).trans e2, fun z => (hk z).ext he⟩, (hq _ (by omega) (by omega)).trans e3, hA.ext he (hq _ (by omega) (by omega)), ⟨J, hJ, (hq _ (by omega) (by omega)).trans eJ⟩, h8⟩
theorem tOK.congr {h : zH} {n k : Nat} {den den' : Nat → zT} {G : Nat → Int32} (hO : tOK h n k den' G) (hd : ∀ u, 0 < u → u ≤ n → den' u = den u) : tOK h n k den G := by
  obtain ⟨T, hS, ⟨i1, i2, i3, i4, i5, i6, i7, i8, i9, i10⟩, hG⟩ := hO
  refine ⟨T, hS, ⟨i1, i2, i3, i4, i5, fun t h1 h2 => ?_, fun t u h1 h2 h3 h4 he => i7 t u h1 h2 h3 h4 (by rw [hd t h1 h2, hd u h3 h4]; exact he), i8, i9, i10⟩, hG⟩
  have := i6 t h1 h2
  rw [hd t h1 h2] at this
  exact rw_C_mono this (Nat.le_refl _) (fun x x1 x2 => (hd x x1 (by omega)).symm)
def endI (I : Nat → Int32) : Nat → Int32 := if I 7 < lim I then I else va_up I 9 0
theorem lim2 (I : Nat → Int32) : lim I = 3 ∨ lim I = 2 := by unfold lim; split; exact Or.inl rfl; exact Or.inr rfl
section SE
variable {h0 : zH} {b n k m : Nat} {den : Nat → zT} {G : Nat → Int32} {ps : Nat → List zT} {I : Nat → Int32} {Θ : Nat → zT} {K : Nat → Int32}
set_option maxHeartbeats 4000000 in
theorem c_endAgreement (sc : Nat × (Nat → Int32)) (d : Nat) (hb : 44 ≤ b) (hT : tOK h0 n k den G) (hM : mOK h0 n den m ps) (hn : n + 2 < 720) (hs : sOKw False h0 b n den I Θ K) : zMt zTab sc (d + 5) 31 [.ref b] h0 0 0 (fun r h' => r = none ∧ ∃ n' den', exq n den n' den' 2 ∧ tOK h' n' k den' G ∧ mOK h' n' den' m ps ∧ sOK h' b n' den' (endI I) Θ K ∧ frS b h0 h') := by
  obtain ⟨e1, ⟨sk, rk, e2, -⟩, e3, hA, ⟨J, hJ, eJ⟩, h8⟩ := hs
  have hA0 := hA
  obtain ⟨x, y, z, ea, hx, hy, hz, hI⟩ := hA
  have ea0 := ea
  have e10 := e1
  unfold sF at e1
  unfold aF at ea
  refine zM_gen fun P hP => ?_
  refine zM_start (r := r_Se_endAgreement) (cd := k_Se_endAgreement) (L0 := [some (.ref b)]) rfl rfl rfl rfl rfl ?_
  (repeat (refine zS_one rfl ?_; simp (disch := (first | decide | assumption | omega)) only [i_push, i_null, i_ild, i_ald, i_ist, i_ast, i_inc, i_bin, i_div, i_un, i_dup, i_pop, i_dup2, i_if, i_icmp, i_nul, i_nnl, i_goto, i_getf, i_putf, i_gets, i_nald, i_nast, i_aald, i_aast, i_alen, i_new, i_newa, i_newq, i_math, i_oini, i_iret, i_zret, i_aret, i_vret, z_fit, List.getElem?_cons_zero, List.getElem?_cons_succ, List.set_cons_zero, List.set_cons_succ, Nat.reduceAdd, Nat.reduceLT, Nat.reduceLeDiff, Nat.reduceEqDiff, Nat.zero_lt_succ, Value.category, true_and, or_true, true_or, and_true, false_implies, true_implies, not_false_eq_true, not_true_eq_false, List.map_cons, List.map_nil, List.sum_cons, List.sum_nil, va_up_eq, bx_uu, va_up_lit, List.length_cons, List.length_nil, List.drop_succ_cons, List.drop_zero, Option.toList_some, Option.toList_none, List.cons_append, List.nil_append, e1]))
  (try refine zS_one rfl ?_)
  refine r_callV (c_isDone sc (d + 3) ea0) rfl rfl rfl rfl ea (Nat.le_refl _) (Nat.le_refl _) ?_
  have q10 : ¬ (1 : Int32) = 0 := by decide
  rintro r h' ⟨rfl, ⟨rfl, hd⟩ | ⟨rfl, hd⟩⟩
  rotate_left
  · (repeat (refine zS_one rfl ?_; simp (disch := (first | decide | assumption | omega)) only [i_push, i_null, i_ild, i_ald, i_ist, i_ast, i_inc, i_bin, i_div, i_un, i_dup, i_pop, i_dup2, i_if, i_icmp, i_nul, i_nnl, i_goto, i_getf, i_putf, i_gets, i_nald, i_nast, i_aald, i_aast, i_alen, i_new, i_newa, i_newq, i_math, i_oini, i_iret, i_zret, i_aret, i_vret, z_fit, List.getElem?_cons_zero, List.getElem?_cons_succ, List.set_cons_zero, List.set_cons_succ, Nat.reduceAdd, Nat.reduceLT, Nat.reduceLeDiff, Nat.reduceEqDiff, Nat.zero_lt_succ, Value.category, true_and, or_true, true_or, and_true, false_implies, true_implies, not_false_eq_true, not_true_eq_false, List.map_cons, List.map_nil, List.sum_cons, List.sum_nil, va_up_eq, bx_uu, va_up_lit, List.length_cons, List.length_nil, List.drop_succ_cons, List.drop_zero, Option.toList_some, Option.toList_none, List.cons_append, List.nil_append]))
    have hE : endI I = I := if_pos hd
    rw [hE] at hP
    exact hP _ _ ⟨rfl, n, den, exq.rf, hT, hM, ⟨e10, ⟨sk, rk, e2, fun z => absurd hd z⟩, e3, hA0, ⟨J, hJ, eJ⟩, h8⟩, frS.rf⟩
  (repeat (refine zS_one rfl ?_; simp (disch := (first | decide | assumption | omega)) only [i_push, i_null, i_ild, i_ald, i_ist, i_ast, i_inc, i_bin, i_div, i_un, i_dup, i_pop, i_dup2, i_if, i_icmp, i_nul, i_nnl, i_goto, i_getf, i_putf, i_gets, i_nald, i_nast, i_aald, i_aast, i_alen, i_new, i_newa, i_newq, i_math, i_oini, i_iret, i_zret, i_aret, i_vret, z_fit, List.getElem?_cons_zero, List.getElem?_cons_succ, List.set_cons_zero, List.set_cons_succ, Nat.reduceAdd, Nat.reduceLT, Nat.reduceLeDiff, Nat.reduceEqDiff, Nat.zero_lt_succ, Value.category, true_and, or_true, true_or, and_true, false_implies, true_implies, not_false_eq_true, not_true_eq_false, List.map_cons, List.map_nil, List.sum_cons, List.sum_nil, va_up_eq, bx_uu, va_up_lit, List.length_cons, List.length_nil, List.drop_succ_cons, List.drop_zero, Option.toList_some, Option.toList_none, List.cons_append, List.nil_append, e1, ea, q10]))
  (try refine zS_one rfl ?_)
  refine r_callV (c_setKeys sc d (c := b + 1) (by omega) hT hM hn e2 hy.1 hy.2.1 hy.2.2 hI.2.1) rfl rfl rfl rfl e2 (Nat.le_refl _) (Nat.le_refl _) ?_
  rintro r h1 ⟨rfl, n1, den1, u, v, hx1, hT1, hM1, e4, hu, hv, hf1, e5⟩
  have e6 : h1.1 b = _ := (hf1.1 b (by omega) (by omega) (by omega)).trans e1
  (repeat (refine zS_one rfl ?_; simp (disch := (first | decide | assumption | omega)) only [i_push, i_null, i_ild, i_ald, i_ist, i_ast, i_inc, i_bin, i_div, i_un, i_dup, i_pop, i_dup2, i_if, i_icmp, i_nul, i_nnl, i_goto, i_getf, i_putf, i_gets, i_nald, i_nast, i_aald, i_aast, i_alen, i_new, i_newa, i_newq, i_math, i_oini, i_iret, i_zret, i_aret, i_vret, z_fit, List.getElem?_cons_zero, List.getElem?_cons_succ, List.set_cons_zero, List.set_cons_succ, Nat.reduceAdd, Nat.reduceLT, Nat.reduceLeDiff, Nat.reduceEqDiff, Nat.zero_lt_succ, Value.category, true_and, or_true, true_or, and_true, false_implies, true_implies, not_false_eq_true, not_true_eq_false, List.map_cons, List.map_nil, List.sum_cons, List.sum_nil, va_up_eq, bx_uu, va_up_lit, List.length_cons, List.length_nil, List.drop_succ_cons, List.drop_zero, Option.toList_some, Option.toList_none, List.cons_append, List.nil_append, e6]))
  have hE : endI I = va_up I 9 0 := if_neg hd
  rw [hE] at hP
  refine hP _ _ ⟨rfl, n1, den1, hx1, hT1.same (fun q hq => va_up_lit _ _ _ _ (by omega)), hM1.same (fun q hq => va_up_lit _ _ _ _ (by omega)), ⟨va_up_eq _ _ _, ⟨u, v, ?_, fun _ => ⟨hu, hv⟩⟩, ?_, ?_, ⟨J, hJ, ?_⟩, h8⟩, hf1.S.tr (frS_set (by omega) (by omega))⟩
  · exact (va_up_lit _ _ _ _ (by omega)).trans e4
  · exact (va_up_lit _ _ _ _ (by omega)).trans (e5.trans e3)
  · have hA1 : aOK (va_up h1.1 b (.inr (3, [.ref 1, .ref (b + 1), .ref (b + 3), .ref (b + 4), .int (I 8), .int 0, .int (I 10), .int (I 11)])), h1.2) (b + 3) n1 den1 I Θ := hA0.ext hx1 ((va_up_lit _ _ _ _ (by omega)).trans (hf1.1 _ (by omega) (by omega) (by omega)))
    exact hA1
  · exact (va_up_lit _ _ _ _ (by omega)).trans ((hf1.1 _ (by omega) (by omega) (by omega)).trans eJ)
theorem c_notePayload (sc : Nat × (Nat → Int32)) (d : Nat) (e1 : h0.1 b = .inr (3, sF b I)) (v : Int32) : zMt zTab sc (d + 1) 29 [.ref b, .int v] h0 0 0 (fun r h' => r = none ∧ h' = (va_up h0.1 b (.inr (3, sF b (va_up (va_up I 10 v) 11 (I 11 + 1)))), h0.2)) := by
  unfold sF at e1
  refine zM_gen fun P hP => ?_
  refine zM_start (r := r_Se_notePayload) (cd := k_Se_notePayload) (L0 := [some (.ref b), some (.int v)]) rfl rfl rfl rfl rfl ?_
  (repeat (refine zS_one rfl ?_; simp (disch := (first | decide | assumption | omega)) only [i_push, i_null, i_ild, i_ald, i_ist, i_ast, i_inc, i_bin, i_div, i_un, i_dup, i_pop, i_dup2, i_if, i_icmp, i_nul, i_nnl, i_goto, i_getf, i_putf, i_gets, i_nald, i_nast, i_aald, i_aast, i_alen, i_new, i_newa, i_newq, i_math, i_oini, i_iret, i_zret, i_aret, i_vret, z_fit, List.getElem?_cons_zero, List.getElem?_cons_succ, List.set_cons_zero, List.set_cons_succ, Nat.reduceAdd, Nat.reduceLT, Nat.reduceLeDiff, Nat.reduceEqDiff, Nat.zero_lt_succ, Value.category, true_and, or_true, true_or, and_true, false_implies, true_implies, not_false_eq_true, not_true_eq_false, List.map_cons, List.map_nil, List.sum_cons, List.sum_nil, va_up_eq, bx_uu, va_up_lit, List.length_cons, List.length_nil, List.drop_succ_cons, List.drop_zero, Option.toList_some, Option.toList_none, List.cons_append, List.nil_append, e1]))
  exact hP _ _ ⟨rfl, rfl⟩
def tlim (I : Nat → Int32) : Int32 := if I 7 < lim I then 6 else 30
def tickI (I : Nat → Int32) : Nat → Int32 := if I 8 = 0 then va_up (va_up I 9 (I 9 + 1)) 8 (if I 9 + 1 < tlim I then 0 else 1) else I
theorem c_passTick (sc : Nat × (Nat → Int32)) (d : Nat) (hb : 44 ≤ b) {x y z : Nat} (e1 : h0.1 b = .inr (3, sF b I)) (ea : h0.1 (b + 3) = .inr (0, aF I x y z)) : zMt zTab sc (d + 2) 30 [.ref b] h0 0 0 (fun r h' => ((I 8 = 0 ∧ r = some (.int (tickI I 8))) ∨ (¬ I 8 = 0 ∧ r = some (.int 0))) ∧ h'.1 b = .inr (3, sF b (tickI I)) ∧ (∀ q, q ≠ b → h'.1 q = h0.1 q) ∧ h'.2 = h0.2) := by
  have e10 := e1
  unfold sF at e1
  refine zM_gen fun P hP => ?_
  refine zM_start (r := r_Se_passTick) (cd := k_Se_passTick) (L0 := [some (.ref b)]) rfl rfl rfl rfl rfl ?_
  (repeat (refine zS_one rfl ?_; simp (disch := (first | decide | assumption | omega)) only [i_push, i_null, i_ild, i_ald, i_ist, i_ast, i_inc, i_bin, i_div, i_un, i_dup, i_pop, i_dup2, i_if, i_icmp, i_nul, i_nnl, i_goto, i_getf, i_putf, i_gets, i_nald, i_nast, i_aald, i_aast, i_alen, i_new, i_newa, i_newq, i_math, i_oini, i_iret, i_zret, i_aret, i_vret, z_fit, List.getElem?_cons_zero, List.getElem?_cons_succ, List.set_cons_zero, List.set_cons_succ, Nat.reduceAdd, Nat.reduceLT, Nat.reduceLeDiff, Nat.reduceEqDiff, Nat.zero_lt_succ, Value.category, true_and, or_true, true_or, and_true, false_implies, true_implies, not_false_eq_true, not_true_eq_false, List.map_cons, List.map_nil, List.sum_cons, List.sum_nil, va_up_eq, bx_uu, va_up_lit, List.length_cons, List.length_nil, List.drop_succ_cons, List.drop_zero, Option.toList_some, Option.toList_none, List.cons_append, List.nil_append, e1]))
  refine ⟨fun q => ?_, fun q => ?_⟩
  rotate_left
  · (repeat (refine zS_one rfl ?_; simp (disch := (first | decide | assumption | omega)) only [i_push, i_null, i_ild, i_ald, i_ist, i_ast, i_inc, i_bin, i_div, i_un, i_dup, i_pop, i_dup2, i_if, i_icmp, i_nul, i_nnl, i_goto, i_getf, i_putf, i_gets, i_nald, i_nast, i_aald, i_aast, i_alen, i_new, i_newa, i_newq, i_math, i_oini, i_iret, i_zret, i_aret, i_vret, z_fit, List.getElem?_cons_zero, List.getElem?_cons_succ, List.set_cons_zero, List.set_cons_succ, Nat.reduceAdd, Nat.reduceLT, Nat.reduceLeDiff, Nat.reduceEqDiff, Nat.zero_lt_succ, Value.category, true_and, or_true, true_or, and_true, false_implies, true_implies, not_false_eq_true, not_true_eq_false, List.map_cons, List.map_nil, List.sum_cons, List.sum_nil, va_up_eq, bx_uu, va_up_lit, List.length_cons, List.length_nil, List.drop_succ_cons, List.drop_zero, Option.toList_some, Option.toList_none, List.cons_append, List.nil_append]))
    refine hP _ _ ⟨Or.inr ⟨q, rfl⟩, ?_, fun _ _ => rfl, rfl⟩
    unfold tickI
    rw [if_neg q]
    exact e10
  have hb3 : ¬ b + 3 = b := by omega
  have ea1 : (va_up h0.1 b (.inr (3, [.ref 1, .ref (b + 1), .ref (b + 3), .ref (b + 4), .int (I 8), .int (I 9 + 1), .int (I 10), .int (I 11)])), h0.2).1 (b + 3) = .inr (0, aF I x y z) := (va_up_lit _ _ _ _ hb3).trans ea
  (repeat (refine zS_one rfl ?_; simp (disch := (first | decide | assumption | omega)) only [i_push, i_null, i_ild, i_ald, i_ist, i_ast, i_inc, i_bin, i_div, i_un, i_dup, i_pop, i_dup2, i_if, i_icmp, i_nul, i_nnl, i_goto, i_getf, i_putf, i_gets, i_nald, i_nast, i_aald, i_aast, i_alen, i_new, i_newa, i_newq, i_math, i_oini, i_iret, i_zret, i_aret, i_vret, z_fit, List.getElem?_cons_zero, List.getElem?_cons_succ, List.set_cons_zero, List.set_cons_succ, Nat.reduceAdd, Nat.reduceLT, Nat.reduceLeDiff, Nat.reduceEqDiff, Nat.zero_lt_succ, Value.category, true_and, or_true, true_or, and_true, false_implies, true_implies, not_false_eq_true, not_true_eq_false, List.map_cons, List.map_nil, List.sum_cons, List.sum_nil, va_up_eq, bx_uu, va_up_lit, List.length_cons, List.length_nil, List.drop_succ_cons, List.drop_zero, Option.toList_some, Option.toList_none, List.cons_append, List.nil_append, e1]))
  (try refine zS_one rfl ?_)
  refine r_callV (c_isDone sc d (h0 := (va_up h0.1 b (.inr (3, [.ref 1, .ref (b + 1), .ref (b + 3), .ref (b + 4), .int (I 8), .int (I 9 + 1), .int (I 10), .int (I 11)])), h0.2)) ea1) rfl rfl rfl rfl ea1 (Nat.le_refl _) (Nat.le_refl _) ?_
  have q10 : ¬ (1 : Int32) = 0 := by decide
  have fin : ∀ (v : Int32), v = (if I 9 + 1 < tlim I then 0 else 1) → (v = 0 ∨ v = 1) ∧ P (some (.int v)) (va_up h0.1 b (.inr (3, [.ref 1, .ref (b + 1), .ref (b + 3), .ref (b + 4), .int v, .int (I 9 + 1), .int (I 10), .int (I 11)])), h0.2) := by
    intro v hv
    have ht : tickI I = va_up (va_up I 9 (I 9 + 1)) 8 v := by unfold tickI; rw [if_pos q, hv]
    refine ⟨by rw [hv]; split; exact Or.inl rfl; exact Or.inr rfl, hP _ _ ⟨Or.inl ⟨q, by rw [ht]; rfl⟩, ?_, fun q hq => va_up_lit _ _ _ _ hq, rfl⟩⟩
    rw [ht]
    exact va_up_eq _ _ _
  rintro r h' ⟨rfl, ⟨rfl, hd⟩ | ⟨rfl, hd⟩⟩
  · have hl : tlim I = 30 := if_neg hd
    rw [hl] at fin
    (repeat (refine zS_one rfl ?_; simp (disch := (first | decide | assumption | omega)) only [i_push, i_null, i_ild, i_ald, i_ist, i_ast, i_inc, i_bin, i_div, i_un, i_dup, i_pop, i_dup2, i_if, i_icmp, i_nul, i_nnl, i_goto, i_getf, i_putf, i_gets, i_nald, i_nast, i_aald, i_aast, i_alen, i_new, i_newa, i_newq, i_math, i_oini, i_iret, i_zret, i_aret, i_vret, z_fit, List.getElem?_cons_zero, List.getElem?_cons_succ, List.set_cons_zero, List.set_cons_succ, Nat.reduceAdd, Nat.reduceLT, Nat.reduceLeDiff, Nat.reduceEqDiff, Nat.zero_lt_succ, Value.category, true_and, or_true, true_or, and_true, false_implies, true_implies, not_false_eq_true, not_true_eq_false, List.map_cons, List.map_nil, List.sum_cons, List.sum_nil, va_up_eq, bx_uu, va_up_lit, List.length_cons, List.length_nil, List.drop_succ_cons, List.drop_zero, Option.toList_some, Option.toList_none, List.cons_append, List.nil_append, q10]))
    refine ⟨fun f => ?_, fun f => ?_⟩
    · (repeat (refine zS_one rfl ?_; simp (disch := (first | decide | assumption | omega)) only [i_push, i_null, i_ild, i_ald, i_ist, i_ast, i_inc, i_bin, i_div, i_un, i_dup, i_pop, i_dup2, i_if, i_icmp, i_nul, i_nnl, i_goto, i_getf, i_putf, i_gets, i_nald, i_nast, i_aald, i_aast, i_alen, i_new, i_newa, i_newq, i_math, i_oini, i_iret, i_zret, i_aret, i_vret, z_fit, List.getElem?_cons_zero, List.getElem?_cons_succ, List.set_cons_zero, List.set_cons_succ, Nat.reduceAdd, Nat.reduceLT, Nat.reduceLeDiff, Nat.reduceEqDiff, Nat.zero_lt_succ, Value.category, true_and, or_true, true_or, and_true, false_implies, true_implies, not_false_eq_true, not_true_eq_false, List.map_cons, List.map_nil, List.sum_cons, List.sum_nil, va_up_eq, bx_uu, va_up_lit, List.length_cons, List.length_nil, List.drop_succ_cons, List.drop_zero, Option.toList_some, Option.toList_none, List.cons_append, List.nil_append]))
      exact (fin 0 (by rw [if_pos f])).2
    · (repeat (refine zS_one rfl ?_; simp (disch := (first | decide | assumption | omega)) only [i_push, i_null, i_ild, i_ald, i_ist, i_ast, i_inc, i_bin, i_div, i_un, i_dup, i_pop, i_dup2, i_if, i_icmp, i_nul, i_nnl, i_goto, i_getf, i_putf, i_gets, i_nald, i_nast, i_aald, i_aast, i_alen, i_new, i_newa, i_newq, i_math, i_oini, i_iret, i_zret, i_aret, i_vret, z_fit, List.getElem?_cons_zero, List.getElem?_cons_succ, List.set_cons_zero, List.set_cons_succ, Nat.reduceAdd, Nat.reduceLT, Nat.reduceLeDiff, Nat.reduceEqDiff, Nat.zero_lt_succ, Value.category, true_and, or_true, true_or, and_true, false_implies, true_implies, not_false_eq_true, not_true_eq_false, List.map_cons, List.map_nil, List.sum_cons, List.sum_nil, va_up_eq, bx_uu, va_up_lit, List.length_cons, List.length_nil, List.drop_succ_cons, List.drop_zero, Option.toList_some, Option.toList_none, List.cons_append, List.nil_append, Nat.reduceEqDiff]))
      exact (fin 1 (by rw [if_neg f])).2
  · have hl : tlim I = 6 := if_pos hd
    rw [hl] at fin
    (repeat (refine zS_one rfl ?_; simp (disch := (first | decide | assumption | omega)) only [i_push, i_null, i_ild, i_ald, i_ist, i_ast, i_inc, i_bin, i_div, i_un, i_dup, i_pop, i_dup2, i_if, i_icmp, i_nul, i_nnl, i_goto, i_getf, i_putf, i_gets, i_nald, i_nast, i_aald, i_aast, i_alen, i_new, i_newa, i_newq, i_math, i_oini, i_iret, i_zret, i_aret, i_vret, z_fit, List.getElem?_cons_zero, List.getElem?_cons_succ, List.set_cons_zero, List.set_cons_succ, Nat.reduceAdd, Nat.reduceLT, Nat.reduceLeDiff, Nat.reduceEqDiff, Nat.zero_lt_succ, Value.category, true_and, or_true, true_or, and_true, false_implies, true_implies, not_false_eq_true, not_true_eq_false, List.map_cons, List.map_nil, List.sum_cons, List.sum_nil, va_up_eq, bx_uu, va_up_lit, List.length_cons, List.length_nil, List.drop_succ_cons, List.drop_zero, Option.toList_some, Option.toList_none, List.cons_append, List.nil_append, q10]))
    refine ⟨fun f => ?_, fun f => ?_⟩
    · (repeat (refine zS_one rfl ?_; simp (disch := (first | decide | assumption | omega)) only [i_push, i_null, i_ild, i_ald, i_ist, i_ast, i_inc, i_bin, i_div, i_un, i_dup, i_pop, i_dup2, i_if, i_icmp, i_nul, i_nnl, i_goto, i_getf, i_putf, i_gets, i_nald, i_nast, i_aald, i_aast, i_alen, i_new, i_newa, i_newq, i_math, i_oini, i_iret, i_zret, i_aret, i_vret, z_fit, List.getElem?_cons_zero, List.getElem?_cons_succ, List.set_cons_zero, List.set_cons_succ, Nat.reduceAdd, Nat.reduceLT, Nat.reduceLeDiff, Nat.reduceEqDiff, Nat.zero_lt_succ, Value.category, true_and, or_true, true_or, and_true, false_implies, true_implies, not_false_eq_true, not_true_eq_false, List.map_cons, List.map_nil, List.sum_cons, List.sum_nil, va_up_eq, bx_uu, va_up_lit, List.length_cons, List.length_nil, List.drop_succ_cons, List.drop_zero, Option.toList_some, Option.toList_none, List.cons_append, List.nil_append]))
      exact (fin 0 (by rw [if_pos f])).2
    · (repeat (refine zS_one rfl ?_; simp (disch := (first | decide | assumption | omega)) only [i_push, i_null, i_ild, i_ald, i_ist, i_ast, i_inc, i_bin, i_div, i_un, i_dup, i_pop, i_dup2, i_if, i_icmp, i_nul, i_nnl, i_goto, i_getf, i_putf, i_gets, i_nald, i_nast, i_aald, i_aast, i_alen, i_new, i_newa, i_newq, i_math, i_oini, i_iret, i_zret, i_aret, i_vret, z_fit, List.getElem?_cons_zero, List.getElem?_cons_succ, List.set_cons_zero, List.set_cons_succ, Nat.reduceAdd, Nat.reduceLT, Nat.reduceLeDiff, Nat.reduceEqDiff, Nat.zero_lt_succ, Value.category, true_and, or_true, true_or, and_true, false_implies, true_implies, not_false_eq_true, not_true_eq_false, List.map_cons, List.map_nil, List.sum_cons, List.sum_nil, va_up_eq, bx_uu, va_up_lit, List.length_cons, List.length_nil, List.drop_succ_cons, List.drop_zero, Option.toList_some, Option.toList_none, List.cons_append, List.nil_append, Nat.reduceEqDiff]))
      exact (fin 1 (by rw [if_neg f])).2
end SE
