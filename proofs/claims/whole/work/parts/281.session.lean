/-- the messages' terms are old ones -/
theorem mOK.shrink {h h3 : zH} {n n3 m k c : Nat} {den den3 : Nat → zT} {ps : Nat → List zT} {G : Nat → Int32} (h3M : mOK h3 n3 den3 m ps) (hM : mOK h n den m ps) (hx : exq n den n3 den3 c) (hT : tOK h3 n3 k den3 G) : mOK h3 n den m ps := by
  obtain ⟨Sz, Rw, -, -, hR, -⟩ := hM
  obtain ⟨Sz', Rw', hS', hm', hR', hE'⟩ := h3M
  obtain ⟨T, -, hI, -⟩ := hT
  refine ⟨Sz', Rw', hS', hm', fun i hi => ?_, hE'⟩
  obtain ⟨r1, r2, r3⟩ := hR' i hi
  refine ⟨r1, r2, fun j τ hj => ?_⟩
  obtain ⟨t, t1, t2, t3, t4⟩ := r3 j τ hj
  obtain ⟨u, u1, u2, -, u4⟩ := (hR i hi).2.2 j τ hj
  have := hI.2.2.2.2.2.2.1 t u t1 t2 u1 (by have := hx.1; omega) (by rw [t4, hx.2.2 u u1 u2, u4])
  subst this
  exact ⟨t, t1, u2, t3, u4⟩
section SE2
variable {h0 : zH} {b n k m : Nat} {den : Nat → zT} {G : Nat → Int32} {ps : Nat → List zT} {I : Nat → Int32} {Θ : Nat → zT} {K : Nat → Int32}
/-- the numbers of a session that an agreement doesn't touch -/
def tl8 (I I' : Nat → Int32) : Prop := ∀ q, 8 ≤ q → I' q = I q
theorem sF_tl {I I' : Nat → Int32} (h : tl8 I I') : sF b I' = sF b I := by
  unfold sF
  rw [h 8 (by decide), h 9 (by decide), h 10 (by decide), h 11 (by decide)]
theorem cF_tl {I I' : Nat → Int32} (h : tl8 I I') (c sk rk : Nat) : cF c sk rk I' = cF c sk rk I := by
  unfold cF
  rw [h 12 (by decide), h 13 (by decide)]
theorem inc_tl (I : Nat → Int32) (Θ : Nat → zT) : tl8 I (inc I Θ) := by
  intro q hq
  unfold inc
  split
  · rfl
  · exact va_up_lit _ _ _ _ (by omega)
theorem up_tl {I I' : Nat → Int32} {j : Nat} (v : Int32) (h : tl8 I I') (hj : j < 8) : tl8 I (va_up I' j v) := fun q hq => (va_up_lit _ _ _ _ (by omega)).trans (h q hq)
theorem tl_tr {I I' I'' : Nat → Int32} (h : tl8 I I') (h' : tl8 I' I'') : tl8 I I'' := fun q hq => (h' q hq).trans (h q hq)
theorem wtok_tl (tok : Int32) (s : zW) : tl8 s.1 (wtok tok s).1 := by
  unfold wtok
  split
  · exact up_tl _ (fun _ _ => rfl) (by decide)
  · split
    · exact inc_tl _ _
    · split
      · exact fun _ _ => rfl
      · exact up_tl _ (fun _ _ => rfl) (by decide)
theorem wpay_tl (v : Int32) (s : zW) : tl8 s.1 (wpay v s).1 := up_tl _ (inc_tl _ _) (by decide)
theorem wrow_tl (r : Nat) (s : zW) : tl8 s.1 (wrow r s).1 := tl_tr (tl_tr (tl_tr (wtok_tl _ _) (wtok_tl _ _)) (wtok_tl _ _)) (wtok_tl _ _)
theorem rk_tl {tok : Int32} {I I' : Nat → Int32} {Θ Θ' : Nat → zT} {τ : zT} (h : rk tok I Θ τ = some (I', Θ')) : tl8 I I' := by
  unfold rk at h
  split at h
  · split at h
    · cases h; exact up_tl _ (fun _ _ => rfl) (by decide)
    · cases h
  · split at h
    · split at h
      · cases h; exact up_tl _ (inc_tl _ _) (by decide)
      · cases h
    · cases h
theorem rtok_tl {tok : Int32} {l : List zT} {s s' : zR3} (h : rtok tok l s = some s') : tl8 s.1 s'.1 := by
  unfold rtok at h
  split at h
  · split at h
    · cases hr : rk tok s.1 s.2.1 _ with
      | none => rw [hr] at h; cases h
      | some q =>
        rw [hr] at h
        cases h
        exact rk_tl hr
    · cases h
  · split at h
    · cases h; exact fun _ _ => rfl
    · cases h; exact up_tl _ (fun _ _ => rfl) (by decide)
theorem rpay_tl {l : List zT} {s : zR3} {q : (Nat → Int32) × (Nat → zT) × zT} (h : rpay l s = some q) : tl8 s.1 q.1 := by
  unfold rpay at h
  split at h
  · split at h
    · split at h
      · cases h; exact up_tl _ (inc_tl _ _) (by decide)
      · cases h
    · cases h
  · cases h
theorem rfin_tl {r : Nat} {l : List zT} {I I' : Nat → Int32} {Θ Θ' : Nat → zT} {Z : zT} (h : rfin r l I Θ = some (I', Θ', Z)) : tl8 I I' := by
  unfold rfin at h
  split at h
  · unfold rrow at h
    simp only [Option.bind_eq_some_iff] at h
    obtain ⟨s4, ⟨s3, ⟨s2, ⟨s1, h1, h2⟩, h3⟩, h4⟩, h5⟩ := h
    exact tl_tr (tl_tr (tl_tr (tl_tr (rtok_tl h1) (rtok_tl h2)) (rtok_tl h3)) (rtok_tl h4)) (rpay_tl h5)
  · cases h
/-- a session whose agreement has gone on -/
theorem sOK_agr {w : Prop} {h h' : zH} {n' : Nat} {den' : Nat → zT} {I' : Nat → Int32} {Θ' : Nat → zT} (hs : sOKw w h b n den I Θ K) (ht : tl8 I I') (hA : aOK h' (b + 3) n' den' I' Θ') (hJ : aAny h' (b + 4)) (h1 : h'.1 b = h.1 b) (h2 : h'.1 (b + 1) = h.1 (b + 1)) (h3 : h'.1 (b + 1 + 1) = h.1 (b + 1 + 1)) : sOKw False h' b n' den' I' Θ' K := by
  obtain ⟨e1, ⟨sk, rk, e2, -⟩, e3, -, -, h8⟩ := hs
  exact ⟨by rw [sF_tl ht, h1]; exact e1, ⟨sk, rk, by rw [cF_tl ht, h2]; exact e2, fun z => z.elim⟩, h3.trans e3, hA, hJ, by rw [ht 8 (by decide)]; exact h8⟩
set_option maxHeartbeats 4000000 in
theorem c_SwriteNext (sc : Nat × (Nat → Int32)) (d : Nat) (hb : 44 ≤ b) (hm6 : m < 60) (hT : tOK h0 n k den G) (hM : mOK h0 n den m ps) (hs : sOK h0 b n den I Θ K) (hps : ps m = []) {p st : Nat} (h1 : I 0 = nI p) (h2 : I 7 = nI st) (hr : p * 3 + st ≤ 4) (hst : st < 3) (hk : p * 3 + st ≠ 2 → k < 20) (hn : n + 18 < 720) (pay : Int32) : zMt zTab sc (d + 7) 27 [.ref b, .ref 11, .int pay] h0 0 0 (fun r h' => r = none ∧ ∃ n' den', exq n den n' den' (crow (p * 3 + st) + 5) ∧ tOK h' n' (wpay pay (wrow (p * 3 + st) (I, Θ, [], k))).2.2.2 den' G ∧ mOK h' n' den' m (va_up ps m (wpay pay (wrow (p * 3 + st) (I, Θ, [], k))).2.2.1) ∧ sOK h' b n' den' (endI (wpay pay (wrow (p * 3 + st) (I, Θ, [], k))).1) (wpay pay (wrow (p * 3 + st) (I, Θ, [], k))).2.1 K ∧ frS b h0 h') := by
  have hs0 := hs
  obtain ⟨e1, ⟨sk, rk, e2, -⟩, e3, hA, hJ, h8⟩ := hs
  have e10 := e1
  unfold sF at e1
  obtain ⟨x, y, z, ea, -⟩ := hA
  refine zM_gen fun P hP => ?_
  refine zM_start (r := r_Se_writeNext) (cd := k_Se_writeNext) (L0 := [some (.ref b), some (.ref 11), some (.int pay)]) rfl rfl rfl rfl rfl ?_
  (repeat (refine zS_one rfl ?_; simp (disch := (first | decide | assumption | omega)) only [i_push, i_null, i_ild, i_ald, i_ist, i_ast, i_inc, i_bin, i_div, i_un, i_dup, i_pop, i_dup2, i_if, i_icmp, i_nul, i_nnl, i_goto, i_getf, i_putf, i_gets, i_nald, i_nast, i_aald, i_aast, i_alen, i_new, i_newa, i_newq, i_math, i_oini, i_iret, i_zret, i_aret, i_vret, z_fit, List.getElem?_cons_zero, List.getElem?_cons_succ, List.set_cons_zero, List.set_cons_succ, Nat.reduceAdd, Nat.reduceLT, Nat.reduceLeDiff, Nat.reduceEqDiff, Nat.zero_lt_succ, Value.category, true_and, or_true, true_or, and_true, false_implies, true_implies, not_false_eq_true, not_true_eq_false, List.map_cons, List.map_nil, List.sum_cons, List.sum_nil, va_up_eq, bx_uu, va_up_lit, List.length_cons, List.length_nil, List.drop_succ_cons, List.drop_zero, Option.toList_some, Option.toList_none, List.cons_append, List.nil_append, e1]))
  (try refine zS_one rfl ?_)
  refine r_callV (c_AwriteNext sc d (a := b + 3) (by omega) hm6 ⟨hT, hM, hs0.2.2.2.1⟩ hps h1 h2 hr hst hk (by omega) pay) rfl rfl rfl rfl ea (Nat.le_refl _) (Nat.le_refl _) ?_
  have htl : tl8 I (wpay pay (wrow (p * 3 + st) (I, Θ, [], k))).1 := tl_tr (wrow_tl _ _) (wpay_tl _ _)
  generalize wpay pay (wrow (p * 3 + st) (I, Θ, [], k)) = s at hP htl ⊢
  rintro r h' ⟨rfl, n1, den1, hx1, ⟨hT1, hM1, hA1⟩, hf1⟩
  have hcr : crow (p * 3 + st) ≤ 12 := by
    obtain ⟨l0, l1, l2, l3⟩ := crow_le (p * 3 + st) (by omega)
    unfold crow; omega
  have hn1 := hx1.2.1
  have hs1 : sOKw False h' b n1 den1 s.1 s.2.1 K := sOK_agr hs0 htl hA1 (by obtain ⟨J, j1, j2⟩ := hJ; exact ⟨J, j1, (hf1.1 _ (by omega) (by omega)).trans j2⟩) (hf1.1 _ (by omega) (by omega)) (hf1.1 _ (by omega) (by omega)) (hf1.1 _ (by omega) (by omega))
  (repeat (refine zS_one rfl ?_; simp (disch := (first | decide | assumption | omega)) only [i_push, i_null, i_ild, i_ald, i_ist, i_ast, i_inc, i_bin, i_div, i_un, i_dup, i_pop, i_dup2, i_if, i_icmp, i_nul, i_nnl, i_goto, i_getf, i_putf, i_gets, i_nald, i_nast, i_aald, i_aast, i_alen, i_new, i_newa, i_newq, i_math, i_oini, i_iret, i_zret, i_aret, i_vret, z_fit, List.getElem?_cons_zero, List.getElem?_cons_succ, List.set_cons_zero, List.set_cons_succ, Nat.reduceAdd, Nat.reduceLT, Nat.reduceLeDiff, Nat.reduceEqDiff, Nat.zero_lt_succ, Value.category, true_and, or_true, true_or, and_true, false_implies, true_implies, not_false_eq_true, not_true_eq_false, List.map_cons, List.map_nil, List.sum_cons, List.sum_nil, va_up_eq, bx_uu, va_up_lit, List.length_cons, List.length_nil, List.drop_succ_cons, List.drop_zero, Option.toList_some, Option.toList_none, List.cons_append, List.nil_append]))
  (try refine zS_one rfl ?_)
  refine r_callV (c_endAgreement sc (d + 1) hb hT1 hM1 (by omega) hs1) rfl rfl rfl rfl hs1.1 (Nat.le_refl _) (Nat.le_refl _) ?_
  rintro r h2 ⟨rfl, n2, den2, hx2, hT2, hM2, hs2, hf2⟩
  (repeat (refine zS_one rfl ?_; simp (disch := (first | decide | assumption | omega)) only [i_push, i_null, i_ild, i_ald, i_ist, i_ast, i_inc, i_bin, i_div, i_un, i_dup, i_pop, i_dup2, i_if, i_icmp, i_nul, i_nnl, i_goto, i_getf, i_putf, i_gets, i_nald, i_nast, i_aald, i_aast, i_alen, i_new, i_newa, i_newq, i_math, i_oini, i_iret, i_zret, i_aret, i_vret, z_fit, List.getElem?_cons_zero, List.getElem?_cons_succ, List.set_cons_zero, List.set_cons_succ, Nat.reduceAdd, Nat.reduceLT, Nat.reduceLeDiff, Nat.reduceEqDiff, Nat.zero_lt_succ, Value.category, true_and, or_true, true_or, and_true, false_implies, true_implies, not_false_eq_true, not_true_eq_false, List.map_cons, List.map_nil, List.sum_cons, List.sum_nil, va_up_eq, bx_uu, va_up_lit, List.length_cons, List.length_nil, List.drop_succ_cons, List.drop_zero, Option.toList_some, Option.toList_none, List.cons_append, List.nil_append]))
  exact hP _ _ ⟨rfl, n2, den2, (hx1.tr hx2).le (by omega), hT2, hM2, hs2, (hf1.S (by omega) (by omega)).tr hf2⟩
set_option maxHeartbeats 4000000 in
theorem c_SreadNext (sc : Nat × (Nat → Int32)) (d : Nat) (hb : 44 ≤ b) (hT : tOK h0 n k den G) (hM : mOK h0 n den m ps) (hs : sOK h0 b n den I Θ K) {p st mi : Nat} (hmi : mi < m) (h1 : I 0 = nI p) (h2 : I 7 = nI st) (hr : p * 3 + st ≤ 4) (hst : st < 3) (hn : n + 18 < 720) : zMt zTab sc (d + 7) 28 [.ref b, .ref 11, .int (nI mi)] h0 0 0 (fun r h' => (∃ I' Θ' Z u n' den', ¬ myT I ∧ rfin (p * 3 + st) (ps mi) I Θ = some (I', Θ', Z) ∧ tkd Z = 1 ∧ r = some (.int (nI u)) ∧ 0 < u ∧ u ≤ n' ∧ den' u = Z ∧ exq n den n' den' (crow (p * 3 + st) + 5) ∧ tOK h' n' k den' G ∧ mOK h' n' den' m ps ∧ sOK h' b n' den' (endI I') Θ' K ∧ frS b h0 h') ∨ (r = some (.int 0) ∧ (myT I ∨ rfin (p * 3 + st) (ps mi) I Θ = none) ∧ tOK h' n k den G ∧ mOK h' n den m ps ∧ sOK h' b n den I Θ K ∧ frS b h0 h')) := by
  have hs0 := hs
  obtain ⟨e1, ⟨sk, rk, e2, hky⟩, e3, hA, hJ, h8⟩ := hs
  have hA0 := hA
  have e10 := e1
  unfold sF at e1
  obtain ⟨x, y, z, ea, hx, hy, hz, hI⟩ := hA
  have q10 : ¬ (1 : Int32) = 0 := by decide
  refine zM_gen fun P hP => ?_
  refine zM_start (r := r_Se_readNext) (cd := k_Se_readNext) (L0 := [some (.ref b), some (.ref 11), some (.int (nI mi)), none, none]) rfl rfl rfl rfl rfl ?_
  (repeat (refine zS_one rfl ?_; simp (disch := (first | decide | assumption | omega)) only [i_push, i_null, i_ild, i_ald, i_ist, i_ast, i_inc, i_bin, i_div, i_un, i_dup, i_pop, i_dup2, i_if, i_icmp, i_nul, i_nnl, i_goto, i_getf, i_putf, i_gets, i_nald, i_nast, i_aald, i_aast, i_alen, i_new, i_newa, i_newq, i_math, i_oini, i_iret, i_zret, i_aret, i_vret, z_fit, List.getElem?_cons_zero, List.getElem?_cons_succ, List.set_cons_zero, List.set_cons_succ, Nat.reduceAdd, Nat.reduceLT, Nat.reduceLeDiff, Nat.reduceEqDiff, Nat.zero_lt_succ, Value.category, true_and, or_true, true_or, and_true, false_implies, true_implies, not_false_eq_true, not_true_eq_false, List.map_cons, List.map_nil, List.sum_cons, List.sum_nil, va_up_eq, bx_uu, va_up_lit, List.length_cons, List.length_nil, List.drop_succ_cons, List.drop_zero, Option.toList_some, Option.toList_none, List.cons_append, List.nil_append, e1]))
  (try refine zS_one rfl ?_)
  refine r_callV (c_isOwnTurn sc (d + 4) ea) rfl rfl rfl rfl ea (Nat.le_refl _) (Nat.le_refl _) ?_
  rintro r h' ⟨rfl, ⟨rfl, hm⟩ | ⟨rfl, hm⟩⟩
  · (repeat (refine zS_one rfl ?_; simp (disch := (first | decide | assumption | omega)) only [i_push, i_null, i_ild, i_ald, i_ist, i_ast, i_inc, i_bin, i_div, i_un, i_dup, i_pop, i_dup2, i_if, i_icmp, i_nul, i_nnl, i_goto, i_getf, i_putf, i_gets, i_nald, i_nast, i_aald, i_aast, i_alen, i_new, i_newa, i_newq, i_math, i_oini, i_iret, i_zret, i_aret, i_vret, z_fit, List.getElem?_cons_zero, List.getElem?_cons_succ, List.set_cons_zero, List.set_cons_succ, Nat.reduceAdd, Nat.reduceLT, Nat.reduceLeDiff, Nat.reduceEqDiff, Nat.zero_lt_succ, Value.category, true_and, or_true, true_or, and_true, false_implies, true_implies, not_false_eq_true, not_true_eq_false, List.map_cons, List.map_nil, List.sum_cons, List.sum_nil, va_up_eq, bx_uu, va_up_lit, List.length_cons, List.length_nil, List.drop_succ_cons, List.drop_zero, Option.toList_some, Option.toList_none, List.cons_append, List.nil_append, q10]))
    exact hP _ _ (Or.inr ⟨rfl, Or.inl hm, hT, hM, hs0, frS.rf⟩)
  (repeat (refine zS_one rfl ?_; simp (disch := (first | decide | assumption | omega)) only [i_push, i_null, i_ild, i_ald, i_ist, i_ast, i_inc, i_bin, i_div, i_un, i_dup, i_pop, i_dup2, i_if, i_icmp, i_nul, i_nnl, i_goto, i_getf, i_putf, i_gets, i_nald, i_nast, i_aald, i_aast, i_alen, i_new, i_newa, i_newq, i_math, i_oini, i_iret, i_zret, i_aret, i_vret, z_fit, List.getElem?_cons_zero, List.getElem?_cons_succ, List.set_cons_zero, List.set_cons_succ, Nat.reduceAdd, Nat.reduceLT, Nat.reduceLeDiff, Nat.reduceEqDiff, Nat.zero_lt_succ, Value.category, true_and, or_true, true_or, and_true, false_implies, true_implies, not_false_eq_true, not_true_eq_false, List.map_cons, List.map_nil, List.sum_cons, List.sum_nil, va_up_eq, bx_uu, va_up_lit, List.length_cons, List.length_nil, List.drop_succ_cons, List.drop_zero, Option.toList_some, Option.toList_none, List.cons_append, List.nil_append, e1]))
  (try refine zS_one rfl ?_)
  refine r_callV (c_newest sc (d + 5) hT) rfl rfl rfl rfl hT.o (Nat.le_refl _) (Nat.le_refl _) ?_
  rintro r h' ⟨rfl, rfl⟩
  obtain ⟨J, hJ1, eJ⟩ := hJ
  (repeat (refine zS_one rfl ?_; simp (disch := (first | decide | assumption | omega)) only [i_push, i_null, i_ild, i_ald, i_ist, i_ast, i_inc, i_bin, i_div, i_un, i_dup, i_pop, i_dup2, i_if, i_icmp, i_nul, i_nnl, i_goto, i_getf, i_putf, i_gets, i_nald, i_nast, i_aald, i_aast, i_alen, i_new, i_newa, i_newq, i_math, i_oini, i_iret, i_zret, i_aret, i_vret, z_fit, List.getElem?_cons_zero, List.getElem?_cons_succ, List.set_cons_zero, List.set_cons_succ, Nat.reduceAdd, Nat.reduceLT, Nat.reduceLeDiff, Nat.reduceEqDiff, Nat.zero_lt_succ, Value.category, true_and, or_true, true_or, and_true, false_implies, true_implies, not_false_eq_true, not_true_eq_false, List.map_cons, List.map_nil, List.sum_cons, List.sum_nil, va_up_eq, bx_uu, va_up_lit, List.length_cons, List.length_nil, List.drop_succ_cons, List.drop_zero, Option.toList_some, Option.toList_none, List.cons_append, List.nil_append, e1]))
  (try refine zS_one rfl ?_)
  refine r_callV (c_copyFrom sc (d + 5) (a := b + 4) (b := b + 3) (by omega) ⟨J, hJ1, eJ⟩ hI.2.1 ea) rfl rfl rfl rfl eJ (Nat.le_refl _) (Nat.le_refl _) ?_
  rintro r h2' ⟨rfl, hh2⟩
  have w2 : wld h2' (b + 4) n k den G m ps I Θ := by rw [hh2]; exact wld_set (by omega) hT hM hx hy hz hI
  have f2 : frA (b + 4) h' h2' := by rw [hh2]; exact frA_set
  have l2 : ∀ q, q ≠ b + 4 → h2'.1 q = h'.1 q := fun q hq => by rw [hh2]; exact va_up_lit _ _ _ _ hq
  have e12 : h2'.1 b = _ := (l2 b (by omega)).trans e1
  obtain ⟨x4, y4, z4, ea4, -⟩ := w2.2.2
  (repeat (refine zS_one rfl ?_; simp (disch := (first | decide | assumption | omega)) only [i_push, i_null, i_ild, i_ald, i_ist, i_ast, i_inc, i_bin, i_div, i_un, i_dup, i_pop, i_dup2, i_if, i_icmp, i_nul, i_nnl, i_goto, i_getf, i_putf, i_gets, i_nald, i_nast, i_aald, i_aast, i_alen, i_new, i_newa, i_newq, i_math, i_oini, i_iret, i_zret, i_aret, i_vret, z_fit, List.getElem?_cons_zero, List.getElem?_cons_succ, List.set_cons_zero, List.set_cons_succ, Nat.reduceAdd, Nat.reduceLT, Nat.reduceLeDiff, Nat.reduceEqDiff, Nat.zero_lt_succ, Value.category, true_and, or_true, true_or, and_true, false_implies, true_implies, not_false_eq_true, not_true_eq_false, List.map_cons, List.map_nil, List.sum_cons, List.sum_nil, va_up_eq, bx_uu, va_up_lit, List.length_cons, List.length_nil, List.drop_succ_cons, List.drop_zero, Option.toList_some, Option.toList_none, List.cons_append, List.nil_append, e12]))
  (try refine zS_one rfl ?_)
  refine r_callV (c_AreadNext sc d (a := b + 4) (by omega) w2 hmi h1 h2 hr hst (by omega)) rfl rfl rfl rfl ea4 (Nat.le_refl _) (Nat.le_refl _) ?_
  have hcr : crow (p * 3 + st) ≤ 12 := by
    obtain ⟨l0, l1, l2, l3⟩ := crow_le (p * 3 + st) (by omega)
    unfold crow; omega
  rintro r h3 (⟨I', Θ', Z, u, n3, den3, hrf, rfl, u1, u2, u3, hkz, hx3, ⟨hT3, hM3, hA3⟩, hf3⟩ | ⟨hrf, rfl, I', Θ', n3, den3, hx3, ⟨hT3, hM3, hA3⟩, hf3⟩)
  · have hn3 := hx3.2.1
    have wu : ¬ nI u = 0 := nI_ne0 u1 (by omega)
    have e13 : h3.1 b = _ := (hf3.1 b (by omega) (by omega)).trans e12
    have ea3 : h3.1 (b + 3) = _ := ((hf3.1 (b + 3) (by omega) (by omega)).trans (l2 (b + 3) (by omega))).trans ea
    obtain ⟨x5, y5, z5, ea5, hx5, hy5, hz5, hI5⟩ := hA3
    have hJ3 : aAny h3 (b + 3) := ⟨fun q => if q = 8 then nI x else if q = 9 then nI y else if q = 10 then nI z else I q, hI.2.1, ea3⟩
    (repeat (refine zS_one rfl ?_; simp (disch := (first | decide | assumption | omega)) only [i_push, i_null, i_ild, i_ald, i_ist, i_ast, i_inc, i_bin, i_div, i_un, i_dup, i_pop, i_dup2, i_if, i_icmp, i_nul, i_nnl, i_goto, i_getf, i_putf, i_gets, i_nald, i_nast, i_aald, i_aast, i_alen, i_new, i_newa, i_newq, i_math, i_oini, i_iret, i_zret, i_aret, i_vret, z_fit, List.getElem?_cons_zero, List.getElem?_cons_succ, List.set_cons_zero, List.set_cons_succ, Nat.reduceAdd, Nat.reduceLT, Nat.reduceLeDiff, Nat.reduceEqDiff, Nat.zero_lt_succ, Value.category, true_and, or_true, true_or, and_true, false_implies, true_implies, not_false_eq_true, not_true_eq_false, List.map_cons, List.map_nil, List.sum_cons, List.sum_nil, va_up_eq, bx_uu, va_up_lit, List.length_cons, List.length_nil, List.drop_succ_cons, List.drop_zero, Option.toList_some, Option.toList_none, List.cons_append, List.nil_append, wu, e13]))
    (try refine zS_one rfl ?_)
    refine r_callV (c_copyFrom sc (d + 5) (a := b + 3) (b := b + 4) (by omega) hJ3 hI5.2.1 ea5) rfl rfl rfl rfl ea3 (Nat.le_refl _) (Nat.le_refl _) ?_
    rintro r h4 ⟨rfl, hh4⟩
    have w4 : wld h4 (b + 3) n3 k den3 G m ps I' Θ' := by rw [hh4]; exact wld_set (by omega) hT3 hM3 hx5 hy5 hz5 hI5
    have l4 : ∀ q, q ≠ b + 3 → h4.1 q = h3.1 q := fun q hq => by rw [hh4]; exact va_up_lit _ _ _ _ hq
    have back : ∀ q, ¬ (1 ≤ q ∧ q ≤ 13) → q ≠ b + 3 → q ≠ b + 4 → h4.1 q = h'.1 q := fun q g1 g2 g3 => ((l4 q g2).trans (hf3.1 q g1 g3)).trans (l2 q g3)
    have hs4 : sOKw False h4 b n3 den3 I' Θ' K := sOK_agr hs0 (rfin_tl hrf) w4.2.2 ⟨fun q => if q = 8 then nI x5 else if q = 9 then nI y5 else if q = 10 then nI z5 else I' q, hI5.2.1, (l4 _ (by omega)).trans ea5⟩ (back b (by omega) (by omega) (by omega)) (back (b + 1) (by omega) (by omega) (by omega)) (back (b + 1 + 1) (by omega) (by omega) (by omega))
    have f4 : frS b h3 h4 := by rw [hh4]; exact frS_set (by omega) (by omega)
    (repeat (refine zS_one rfl ?_; simp (disch := (first | decide | assumption | omega)) only [i_push, i_null, i_ild, i_ald, i_ist, i_ast, i_inc, i_bin, i_div, i_un, i_dup, i_pop, i_dup2, i_if, i_icmp, i_nul, i_nnl, i_goto, i_getf, i_putf, i_gets, i_nald, i_nast, i_aald, i_aast, i_alen, i_new, i_newa, i_newq, i_math, i_oini, i_iret, i_zret, i_aret, i_vret, z_fit, List.getElem?_cons_zero, List.getElem?_cons_succ, List.set_cons_zero, List.set_cons_succ, Nat.reduceAdd, Nat.reduceLT, Nat.reduceLeDiff, Nat.reduceEqDiff, Nat.zero_lt_succ, Value.category, true_and, or_true, true_or, and_true, false_implies, true_implies, not_false_eq_true, not_true_eq_false, List.map_cons, List.map_nil, List.sum_cons, List.sum_nil, va_up_eq, bx_uu, va_up_lit, List.length_cons, List.length_nil, List.drop_succ_cons, List.drop_zero, Option.toList_some, Option.toList_none, List.cons_append, List.nil_append]))
    (try refine zS_one rfl ?_)
    refine r_callV (c_endAgreement sc (d + 1) hb w4.1 w4.2.1 (by omega) hs4) rfl rfl rfl rfl hs4.1 (Nat.le_refl _) (Nat.le_refl _) ?_
    rintro r h6 ⟨rfl, n6, den6, hx6, hT6, hM6, hs6, hf6⟩
    (repeat (refine zS_one rfl ?_; simp (disch := (first | decide | assumption | omega)) only [i_push, i_null, i_ild, i_ald, i_ist, i_ast, i_inc, i_bin, i_div, i_un, i_dup, i_pop, i_dup2, i_if, i_icmp, i_nul, i_nnl, i_goto, i_getf, i_putf, i_gets, i_nald, i_nast, i_aald, i_aast, i_alen, i_new, i_newa, i_newq, i_math, i_oini, i_iret, i_zret, i_aret, i_vret, z_fit, List.getElem?_cons_zero, List.getElem?_cons_succ, List.set_cons_zero, List.set_cons_succ, Nat.reduceAdd, Nat.reduceLT, Nat.reduceLeDiff, Nat.reduceEqDiff, Nat.zero_lt_succ, Value.category, true_and, or_true, true_or, and_true, false_implies, true_implies, not_false_eq_true, not_true_eq_false, List.map_cons, List.map_nil, List.sum_cons, List.sum_nil, va_up_eq, bx_uu, va_up_lit, List.length_cons, List.length_nil, List.drop_succ_cons, List.drop_zero, Option.toList_some, Option.toList_none, List.cons_append, List.nil_append]))
    exact hP _ _ (Or.inl ⟨I', Θ', Z, u, n6, den6, hm, hrf, hkz, rfl, u1, by have := hx6.1; omega, by rw [hx6.2.2 u u1 u2]; exact u3, (hx3.tr hx6).le (by omega), hT6, hM6, hs6, (((f2.S (by omega) (by omega)).tr (hf3.S (by omega) (by omega))).tr f4).tr hf6⟩)
  · have hn3 := hx3.2.1
    have e13 : h3.1 b = _ := (hf3.1 b (by omega) (by omega)).trans e12
    (repeat (refine zS_one rfl ?_; simp (disch := (first | decide | assumption | omega)) only [i_push, i_null, i_ild, i_ald, i_ist, i_ast, i_inc, i_bin, i_div, i_un, i_dup, i_pop, i_dup2, i_if, i_icmp, i_nul, i_nnl, i_goto, i_getf, i_putf, i_gets, i_nald, i_nast, i_aald, i_aast, i_alen, i_new, i_newa, i_newq, i_math, i_oini, i_iret, i_zret, i_aret, i_vret, z_fit, List.getElem?_cons_zero, List.getElem?_cons_succ, List.set_cons_zero, List.set_cons_succ, Nat.reduceAdd, Nat.reduceLT, Nat.reduceLeDiff, Nat.reduceEqDiff, Nat.zero_lt_succ, Value.category, true_and, or_true, true_or, and_true, false_implies, true_implies, not_false_eq_true, not_true_eq_false, List.map_cons, List.map_nil, List.sum_cons, List.sum_nil, va_up_eq, bx_uu, va_up_lit, List.length_cons, List.length_nil, List.drop_succ_cons, List.drop_zero, Option.toList_some, Option.toList_none, List.cons_append, List.nil_append, e13]))
    (try refine zS_one rfl ?_)
    refine r_callV (c_dropBehind sc (d + 4) hT3 hx3.1) rfl rfl rfl rfl hT3.o (Nat.le_refl _) (Nat.le_refl _) ?_
    rintro r h4 ⟨rfl, hT4, hf4⟩
    (repeat (refine zS_one rfl ?_; simp (disch := (first | decide | assumption | omega)) only [i_push, i_null, i_ild, i_ald, i_ist, i_ast, i_inc, i_bin, i_div, i_un, i_dup, i_pop, i_dup2, i_if, i_icmp, i_nul, i_nnl, i_goto, i_getf, i_putf, i_gets, i_nald, i_nast, i_aald, i_aast, i_alen, i_new, i_newa, i_newq, i_math, i_oini, i_iret, i_zret, i_aret, i_vret, z_fit, List.getElem?_cons_zero, List.getElem?_cons_succ, List.set_cons_zero, List.set_cons_succ, Nat.reduceAdd, Nat.reduceLT, Nat.reduceLeDiff, Nat.reduceEqDiff, Nat.zero_lt_succ, Value.category, true_and, or_true, true_or, and_true, false_implies, true_implies, not_false_eq_true, not_true_eq_false, List.map_cons, List.map_nil, List.sum_cons, List.sum_nil, va_up_eq, bx_uu, va_up_lit, List.length_cons, List.length_nil, List.drop_succ_cons, List.drop_zero, Option.toList_some, Option.toList_none, List.cons_append, List.nil_append]))
    have hT5 : tOK h4 n k den G := hT4.congr hx3.2.2
    have back : ∀ q, ¬ (1 ≤ q ∧ q ≤ 13) → q ≠ b + 4 → h4.1 q = h'.1 q := fun q g1 g3 => ((hf4.1 q (by omega)).trans (hf3.1 q g1 g3)).trans (l2 q g3)
    have hM5 : mOK h4 n den m ps := (hM3.shrink hM hx3 hT3).fr (hi := 10) (Nat.le_refl _) (fun _ _ _ => rfl) hf4 (by omega)
    refine hP _ _ (Or.inr ⟨rfl, Or.inr hrf, hT5, hM5, ?_, ?_⟩)
    · obtain ⟨x5, y5, z5, ea5, hx5, hy5, hz5, hI5⟩ := hA3
      exact ⟨(back b (by omega) (by omega)).trans e10, ⟨sk, rk, (back (b + 1) (by omega) (by omega)).trans e2, hky⟩, (back (b + 1 + 1) (by omega) (by omega)).trans e3, hA0.ext (c := 0) exq.rf (back (b + 3) (by omega) (by omega)), ⟨fun q => if q = 8 then nI x5 else if q = 9 then nI y5 else if q = 10 then nI z5 else I' q, hI5.2.1, (hf4.1 _ (by omega)).trans ea5⟩, h8⟩
    · exact ((f2.S (by omega) (by omega)).tr (hf3.S (by omega) (by omega))).tr (hf4.S (by decide) (by decide))
end SE2
