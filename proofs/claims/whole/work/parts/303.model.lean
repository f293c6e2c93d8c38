def kid (x : Int32) (n : Nat) (den : Nat → zT) (τ : zT) : Prop := (x = -1 ∧ τ = []) ∨ ∃ z, z < n ∧ x = nI z ∧ den z = τ ∧ τ ≠ []
/-- the session s is loaded: its view is I and Θ -/
def MV (h : zH) (S : Nat → Int32) (A : Nat → Nat → Int32) (n : Nat) (den : Nat → zT) (s : Nat) (I : Nat → Int32) (Θ : Nat → zT) : Prop :=
  MW h S A n den ∧ s < 12 ∧ S 4 = nI s ∧ (∃ x, x < n ∧ S 5 = nI x ∧ den x = Θ 0) ∧ (∃ y, y < n ∧ S 6 = nI y ∧ den y = Θ 1) ∧ kid (S 7) n den (Θ 2) ∧ (S 8 = I 6 ∧ S 9 = I 3 ∧ S 10 = I 5 ∧ S 11 = I 4) ∧ (A 25 s = I 0 ∧ A 26 s = I 1 ∧ A 27 s = I 2 ∧ A 35 s = I 7) ∧ iOK I
theorem kid.ext {x : Int32} {n n' c : Nat} {den den' : Nat → zT} {τ : zT} (h : kid x n den τ) (hx : exM n den n' den' c) : kid x n' den' τ := by
  rcases h with h | ⟨z, hz, e, ed, hne⟩
  · exact Or.inl h
  · exact Or.inr ⟨z, Nat.lt_of_lt_of_le hz hx.1, e, (hx.2.2 z hz).trans ed, hne⟩
theorem MV.grow {h h' : zH} {S S' : Nat → Int32} {A A' : Nat → Nat → Int32} {n n' s c : Nat} {den den' : Nat → zT} {I : Nat → Int32} {Θ : Nat → zT} (hV : MV h S A n den s I Θ) (hW : MW h' S' A' n' den') (hx : exM n den n' den' c) (hS : ∀ q, q ≠ 0 → S' q = S q) (hA : ∀ p, 20 < p → A' p = A p) : MV h' S' A' n' den' s I Θ := by
  obtain ⟨-, hs, h4, ⟨x, hx1, hx2, hx3⟩, ⟨y, hy1, hy2, hy3⟩, hk, ⟨h8, h9, h10, h11⟩, ⟨a25, a26, a27, a35⟩, hI⟩ := hV
  refine ⟨hW, hs, (hS 4 (by decide)).trans h4, ⟨x, Nat.lt_of_lt_of_le hx1 hx.1, (hS 5 (by decide)).trans hx2, (hx.2.2 x hx1).trans hx3⟩, ⟨y, Nat.lt_of_lt_of_le hy1 hx.1, (hS 6 (by decide)).trans hy2, (hx.2.2 y hy1).trans hy3⟩, by rw [hS 7 (by decide)]; exact hk.ext hx, ⟨(hS 8 (by decide)).trans h8, (hS 9 (by decide)).trans h9, (hS 10 (by decide)).trans h10, (hS 11 (by decide)).trans h11⟩, ⟨by rw [hA 25 (by decide)]; exact a25, by rw [hA 26 (by decide)]; exact a26, by rw [hA 27 (by decide)]; exact a27, by rw [hA 35 (by decide)]; exact a35⟩, hI⟩
theorem MW.fld {h : zH} {S S' : Nat → Int32} {A : Nat → Nat → Int32} {n : Nat} {den : Nat → zT} (hW : MW h S A n den) {fs : List Value} (hf : fs = mF S') (h0 : S' 0 = S 0) : MW (va_up h.1 15 (.inr (6, fs)), h.2) S' A n den := ⟨hW.1.fld hf, h0.trans hW.2.1, hW.2.2⟩
theorem MW.put {h : zH} {S : Nat → Int32} {A : Nat → Nat → Int32} {n : Nat} {den : Nat → zT} (hW : MW h S A n den) (p : Nat) (g : Nat → Int32) {kd ln : Nat} (h1 : 20 < p) (h2 : p ≤ 43) (hk : kd = mKd p) (hl : ln = mLn p) : MW (va_up h.1 p (.inl (kd, ln, .inl g)), h.2) S (va_up A p g) n den := by
  refine ⟨hW.1.put p g (by omega) h2 hk hl, hW.2.1, ?_⟩
  unfold TM
  rw [va_up_lit _ _ 16 _ (by omega), va_up_lit _ _ 17 _ (by omega), va_up_lit _ _ 18 _ (by omega), va_up_lit _ _ 19 _ (by omega), va_up_lit _ _ 20 _ (by omega)]
  exact hW.2.2
def mvQ (h0 : zH) (S : Nat → Int32) (A : Nat → Nat → Int32) (n : Nat) (den : Nat → zT) (s c : Nat) (I' : Nat → Int32) (Θ' : Nat → zT) (h' : zH) : Prop := ∃ n' den' S' A', MV h' S' A' n' den' s I' Θ' ∧ exM n den n' den' c ∧ (∀ q, q = 1 ∨ q = 2 ∨ q = 3 ∨ 12 ≤ q → S' q = S q) ∧ (∀ p, 20 < p → A' p = A p) ∧ frN h0 h'
section MO3
variable {h0 : zH} {S : Nat → Int32} {A : Nat → Nat → Int32} {n s : Nat} {den : Nat → zT} {I : Nat → Int32} {Θ : Nat → zT}
set_option maxHeartbeats 4000000 in
theorem c_mixHash (sc : Nat × (Nat → Int32)) (d : Nat) (hV : MV h0 S A n den s I Θ) (hn : n < 1200) {t : Nat} (ht : t < n) : zMt zTab sc (d + 3) 90 [.ref 15, .int (nI t)] h0 0 0 (fun r h' => r = none ∧ mvQ h0 S A n den s 1 I (hsh Θ (den t)) h') := by
  obtain ⟨hW, -, -, ⟨x, hx1, hx2, hx3⟩, -⟩ := id hV
  have o := hW.o
  rw [hx2] at o
  refine zM_gen fun P hP => ?_
  refine zM_start (r := r_Mo_mixHash) (cd := k_Mo_mixHash) (L0 := [some (.ref 15), some (.int (nI t))]) rfl rfl rfl rfl rfl ?_
  (repeat (refine zS_one rfl ?_; simp (disch := (first | decide | assumption | omega)) only [i_push, i_null, i_ild, i_ald, i_ist, i_ast, i_inc, i_bin, i_div, i_un, i_dup, i_pop, i_dup2, i_if, i_icmp, i_nul, i_nnl, i_goto, i_getf, i_putf, i_gets, i_nald, i_nast, i_aald, i_aast, i_alen, i_new, i_newa, i_newq, i_math, i_oini, i_iret, i_zret, i_aret, i_vret, z_fit, List.getElem?_cons_zero, List.getElem?_cons_succ, List.set_cons_zero, List.set_cons_succ, Nat.reduceAdd, Nat.reduceLT, Nat.reduceLeDiff, Nat.reduceEqDiff, Nat.zero_lt_succ, Value.category, true_and, or_true, true_or, and_true, false_implies, true_implies, not_false_eq_true, not_true_eq_false, List.map_cons, List.map_nil, List.sum_cons, List.sum_nil, va_up_eq, bx_uu, va_up_lit, List.length_cons, List.length_nil, List.drop_succ_cons, List.drop_zero, Option.toList_some, Option.toList_none, List.cons_append, List.nil_append, o]))
  (try refine zS_one rfl ?_)
  refine r_callV (c_Mtwo sc d hW hn (Or.inl rfl) hx1 ht) rfl rfl rfl rfl hW.f (Nat.le_refl _) (Nat.le_refl _) ?_
  rintro r h1 ⟨u, n', den', S', A', rfl, hu, ed, hW1, hx, hS, hA, hf⟩
  have o1 := hW1.o
  have hV1 := hV.grow hW1 hx hS hA
  (repeat (refine zS_one rfl ?_; simp (disch := (first | decide | assumption | omega)) only [i_push, i_null, i_ild, i_ald, i_ist, i_ast, i_inc, i_bin, i_div, i_un, i_dup, i_pop, i_dup2, i_if, i_icmp, i_nul, i_nnl, i_goto, i_getf, i_putf, i_gets, i_nald, i_nast, i_aald, i_aast, i_alen, i_new, i_newa, i_newq, i_math, i_oini, i_iret, i_zret, i_aret, i_vret, z_fit, List.getElem?_cons_zero, List.getElem?_cons_succ, List.set_cons_zero, List.set_cons_succ, Nat.reduceAdd, Nat.reduceLT, Nat.reduceLeDiff, Nat.reduceEqDiff, Nat.zero_lt_succ, Value.category, true_and, or_true, true_or, and_true, false_implies, true_implies, not_false_eq_true, not_true_eq_false, List.map_cons, List.map_nil, List.sum_cons, List.sum_nil, va_up_eq, bx_uu, va_up_lit, List.length_cons, List.length_nil, List.drop_succ_cons, List.drop_zero, Option.toList_some, Option.toList_none, List.cons_append, List.nil_append, o1]))
  refine hP _ _ ⟨rfl, n', den', va_up S' 5 (nI u), A', ?_, hx, fun q hq => ?_, hA, hf.tr (frN.put (by decide) (by decide))⟩
  · obtain ⟨-, z1, z2, -, z4, z5, z6, z7, z8⟩ := hV1
    refine ⟨hW1.fld ?_ (va_up_lit _ _ _ _ (by decide)), z1, ?_, ⟨u, hu, va_up_eq _ _ _, ?_⟩, ?_, ?_, ?_, z7, z8⟩
    · unfold mF
      simp (disch := decide) only [va_up_eq, va_up_lit]
    · rw [va_up_lit _ _ _ _ (by decide)]; exact z2
    · rw [ed, hx3]; unfold hsh; rw [va_up_eq]; rfl
    · rw [va_up_lit _ _ _ _ (by decide)]; unfold hsh; rw [va_up_lit _ _ _ _ (by decide)]; exact z4
    · rw [va_up_lit _ _ _ _ (by decide)]; unfold hsh; rw [va_up_lit _ _ _ _ (by decide)]; exact z5
    · rw [va_up_lit _ _ _ _ (by decide), va_up_lit _ _ _ _ (by decide), va_up_lit _ _ _ _ (by decide), va_up_lit _ _ _ _ (by decide)]; exact z6
  · rw [va_up_lit _ _ _ _ (by omega)]
    exact hS q (by omega)
theorem nI_256 {x y : Nat} (hx : x ≤ 20) (hy : y ≤ 20) : (256 : Int32) * nI x + nI y = nI (256 * x + y) := by
  show Int32.ofNat 256 * Int32.ofNat x + Int32.ofNat y = Int32.ofNat (256 * x + y)
  rw [Int32.ofNat_add, Int32.ofNat_mul]
set_option maxHeartbeats 4000000 in
theorem agree_tail (sc : Nat × (Nat → Int32)) (d : Nat) (hV : MV h0 S A n den s I Θ) (hn : n + 3 ≤ 1200) {tok v : Int32} {p q : Nat} (hp : p ≤ 20) (hq : q ≤ 20) (hv : v = nI (256 * Nat.min p q + Nat.max p q)) (e : dhT (mixX tok I) (mixY tok I) = tDh p q) {P : zP} (hP : ∀ r h', (r = none ∧ mvQ h0 S A n den s 3 (va_up I 6 0) (mixΘ tok I Θ) h') → P r h') (l1 l2 l3 l4 l5 l6 l7 l8 : Option Value) :
    zS (zMt zTab sc (d + 2), (0, 0), sc) k_Mo_agree P (154, [some (.ref 15), l1, l2, l3, l4, l5, l6, l7, l8, none, none], [.int v, .int 3, .ref 15], h0, 0, 0) := by
  obtain ⟨hW, -, -, -, ⟨y, hy1, hy2, hy3⟩, -⟩ := id hV
  have hm1 : Nat.min p q ≤ 20 := Nat.le_trans (Nat.min_le_left p q) hp
  have hm2 : Nat.max p q ≤ 20 := Nat.max_le.mpr ⟨hp, hq⟩
  (repeat (refine zS_one rfl ?_; simp (disch := (first | decide | assumption | omega)) only [i_push, i_null, i_ild, i_ald, i_ist, i_ast, i_inc, i_bin, i_div, i_un, i_dup, i_pop, i_dup2, i_if, i_icmp, i_nul, i_nnl, i_goto, i_getf, i_putf, i_gets, i_nald, i_nast, i_aald, i_aast, i_alen, i_new, i_newa, i_newq, i_math, i_oini, i_iret, i_zret, i_aret, i_vret, z_fit, List.getElem?_cons_zero, List.getElem?_cons_succ, List.set_cons_zero, List.set_cons_succ, Nat.reduceAdd, Nat.reduceLT, Nat.reduceLeDiff, Nat.reduceEqDiff, Nat.zero_lt_succ, Value.category, true_and, or_true, true_or, and_true, false_implies, true_implies, not_false_eq_true, not_true_eq_false, List.map_cons, List.map_nil, List.sum_cons, List.sum_nil, va_up_eq, bx_uu, va_up_lit, List.length_cons, List.length_nil, List.drop_succ_cons, List.drop_zero, Option.toList_some, Option.toList_none, List.cons_append, List.nil_append]))
  (try refine zS_one rfl ?_)
  refine r_callV (c_term sc (d + 1) hW (by omega) (τ := tDh p q) (Or.inr (Or.inr (Or.inl ⟨rfl, rfl, rfl, rfl, Nat.min p q, Nat.max p q, hm1, hm2, hv, by unfold tDh; rw [nI_toInt (by omega), nI_toInt (by omega)]⟩)))) rfl rfl rfl rfl hW.f (Nat.le_refl _) (Nat.le_refl _) ?_
  rintro r h1 ⟨u, n1, den1, S1, A1, rfl, hu, ed, hW1, hx1, hS1, hA1, hf1⟩
  have hV1 := hV.grow hW1 hx1 hS1 hA1
  obtain ⟨-, -, -, -, ⟨y', hy1', hy2', hy3'⟩, -⟩ := id hV1
  have o1 := hW1.o
  rw [hy2'] at o1
  have hn1 : n1 ≤ n + 1 := hx1.2.1
  (repeat (refine zS_one rfl ?_; simp (disch := (first | decide | assumption | omega)) only [i_push, i_null, i_ild, i_ald, i_ist, i_ast, i_inc, i_bin, i_div, i_un, i_dup, i_pop, i_dup2, i_if, i_icmp, i_nul, i_nnl, i_goto, i_getf, i_putf, i_gets, i_nald, i_nast, i_aald, i_aast, i_alen, i_new, i_newa, i_newq, i_math, i_oini, i_iret, i_zret, i_aret, i_vret, z_fit, List.getElem?_cons_zero, List.getElem?_cons_succ, List.set_cons_zero, List.set_cons_succ, Nat.reduceAdd, Nat.reduceLT, Nat.reduceLeDiff, Nat.reduceEqDiff, Nat.zero_lt_succ, Value.category, true_and, or_true, true_or, and_true, false_implies, true_implies, not_false_eq_true, not_true_eq_false, List.map_cons, List.map_nil, List.sum_cons, List.sum_nil, va_up_eq, bx_uu, va_up_lit, List.length_cons, List.length_nil, List.drop_succ_cons, List.drop_zero, Option.toList_some, Option.toList_none, List.cons_append, List.nil_append, o1]))
  (try refine zS_one rfl ?_)
  refine r_callV (c_Mtwo sc d hW1 (by omega) (Or.inr (Or.inr rfl)) hy1' hu) rfl rfl rfl rfl hW1.f (Nat.le_refl _) (Nat.le_refl _) ?_
  rintro r h2 ⟨w, n2, den2, S2, A2, rfl, hw, ed2, hW2, hx2, hS2, hA2, hf2⟩
  have hV2 := hV1.grow hW2 hx2 hS2 hA2
  have o2 := hW2.o
  have hn2 : n2 ≤ n1 + 1 := hx2.2.1
  have hu2 : u < n2 := Nat.lt_of_lt_of_le hu hx2.1
  have hy2n : y' < n2 := Nat.lt_of_lt_of_le hy1' hx2.1
  (iterate 1 (refine zS_one rfl ?_; simp (disch := (first | decide | assumption | omega)) only [i_push, i_null, i_ild, i_ald, i_ist, i_ast, i_inc, i_bin, i_div, i_un, i_dup, i_pop, i_dup2, i_if, i_icmp, i_nul, i_nnl, i_goto, i_getf, i_putf, i_gets, i_nald, i_nast, i_aald, i_aast, i_alen, i_new, i_newa, i_newq, i_math, i_oini, i_iret, i_zret, i_aret, i_vret, z_fit, List.getElem?_cons_zero, List.getElem?_cons_succ, List.set_cons_zero, List.set_cons_succ, Nat.reduceAdd, Nat.reduceLT, Nat.reduceLeDiff, Nat.reduceEqDiff, Nat.zero_lt_succ, Value.category, true_and, or_true, true_or, and_true, false_implies, true_implies, not_false_eq_true, not_true_eq_false, List.map_cons, List.map_nil, List.sum_cons, List.sum_nil, va_up_eq, bx_uu, va_up_lit, List.length_cons, List.length_nil, List.drop_succ_cons, List.drop_zero, Option.toList_some, Option.toList_none, List.cons_append, List.nil_append, o2]))
  have hW3 : MW (va_up h2.1 15 (.inr (6, mF (va_up S2 7 (nI w)))), h2.2) (va_up S2 7 (nI w)) A2 n2 den2 := hW2.fld rfl (va_up_lit _ _ _ _ (by decide))
  have e3 : mF (va_up S2 7 (nI w)) = [.int (S2 0), .ref 16, .ref 17, .ref 18, .ref 19, .ref 20, .ref 21, .int (S2 1), .ref 22, .ref 23, .int (S2 2), .ref 24, .int (S2 3), .ref 25, .ref 26, .ref 27, .ref 28, .ref 29, .ref 30, .ref 31, .ref 32, .ref 33, .ref 34, .ref 35, .ref 36, .ref 37, .ref 38, .ref 39, .ref 40, .ref 41, .ref 42, .int (S2 4), .int (S2 5), .int (S2 6), .int (nI w), .int (S2 8), .int (S2 9), .int (S2 10), .int (S2 11), .int (S2 12), .ref 43, .int (S2 13), .int (S2 14)] := by
    unfold mF
    simp (disch := decide) only [va_up_eq, va_up_lit]
  rw [e3] at hW3
  generalize hh3 : (va_up h2.1 15 _, h2.2) = h3 at *
  have hf3 : frN h2 h3 := by rw [← hh3]; exact frN.put (by decide) (by decide)
  (repeat (refine zS_one rfl ?_; simp (disch := (first | decide | assumption | omega)) only [i_push, i_null, i_ild, i_ald, i_ist, i_ast, i_inc, i_bin, i_div, i_un, i_dup, i_pop, i_dup2, i_if, i_icmp, i_nul, i_nnl, i_goto, i_getf, i_putf, i_gets, i_nald, i_nast, i_aald, i_aast, i_alen, i_new, i_newa, i_newq, i_math, i_oini, i_iret, i_zret, i_aret, i_vret, z_fit, List.getElem?_cons_zero, List.getElem?_cons_succ, List.set_cons_zero, List.set_cons_succ, Nat.reduceAdd, Nat.reduceLT, Nat.reduceLeDiff, Nat.reduceEqDiff, Nat.zero_lt_succ, Value.category, true_and, or_true, true_or, and_true, false_implies, true_implies, not_false_eq_true, not_true_eq_false, List.map_cons, List.map_nil, List.sum_cons, List.sum_nil, va_up_eq, bx_uu, va_up_lit, List.length_cons, List.length_nil, List.drop_succ_cons, List.drop_zero, Option.toList_some, Option.toList_none, List.cons_append, List.nil_append]))
  (try refine zS_one rfl ?_)
  refine r_callV (c_Mtwo sc d hW3 (by omega) (Or.inr (Or.inl rfl)) hy2n hu2) rfl rfl rfl rfl hW3.f (Nat.le_refl _) (Nat.le_refl _) ?_
  rintro r h4 ⟨c, n4, den4, S4, A4, rfl, hc, ed4, hW4, hx4, hS4, hA4, hf4⟩
  have o4 := hW4.o
  (repeat (refine zS_one rfl ?_; simp (disch := (first | decide | assumption | omega)) only [i_push, i_null, i_ild, i_ald, i_ist, i_ast, i_inc, i_bin, i_div, i_un, i_dup, i_pop, i_dup2, i_if, i_icmp, i_nul, i_nnl, i_goto, i_getf, i_putf, i_gets, i_nald, i_nast, i_aald, i_aast, i_alen, i_new, i_newa, i_newq, i_math, i_oini, i_iret, i_zret, i_aret, i_vret, z_fit, List.getElem?_cons_zero, List.getElem?_cons_succ, List.set_cons_zero, List.set_cons_succ, Nat.reduceAdd, Nat.reduceLT, Nat.reduceLeDiff, Nat.reduceEqDiff, Nat.zero_lt_succ, Value.category, true_and, or_true, true_or, and_true, false_implies, true_implies, not_false_eq_true, not_true_eq_false, List.map_cons, List.map_nil, List.sum_cons, List.sum_nil, va_up_eq, bx_uu, va_up_lit, List.length_cons, List.length_nil, List.drop_succ_cons, List.drop_zero, Option.toList_some, Option.toList_none, List.cons_append, List.nil_append, o4]))
  have hx14 : exM n den n4 den4 3 := (hx1.tr hx2).tr hx4
  have dy : den2 y' = Θ 1 := (hx2.2.2 y' hy1').trans hy3'
  have du : den2 u = tDh p q := (hx2.2.2 u hu).trans ed
  refine hP _ _ ⟨rfl, n4, den4, va_up (va_up S4 6 (nI c)) 8 0, A4, ?_, hx14, fun q' hq' => ?_, fun p' hp' => ?_, ((((hf1.tr hf2).tr hf3).tr hf4).tr (frN.put (by decide) (by decide)))⟩
  · obtain ⟨-, z1, z2, ⟨xx, zx1, zx2, zx3⟩, -, -, ⟨z6, z6a, z6b, z6c⟩, ⟨za, zb, zc, zd⟩, zi⟩ := hV2
    have t4 : ∀ q', q' ≠ 0 → q' ≠ 7 → S4 q' = S2 q' := fun q' h1 h2 => (hS4 q' h1).trans (va_up_lit _ _ _ _ h2)
    have tA : ∀ p', 20 < p' → A4 p' = A2 p' := hA4
    refine ⟨hW4.fld ?_ (by rw [va_up_lit _ _ _ _ (by decide), va_up_lit _ _ _ _ (by decide)]), z1, ?_, ⟨xx, Nat.lt_of_lt_of_le zx1 hx4.1, ?_, ?_⟩, ⟨c, hc, ?_, ?_⟩, Or.inr ⟨w, Nat.lt_of_lt_of_le hw hx4.1, ?_, ?_, ?_⟩, ⟨?_, ?_, ?_, ?_⟩, ⟨?_, ?_, ?_, ?_⟩, ?_⟩
    · unfold mF
      simp (disch := decide) only [va_up_eq, va_up_lit]
    · rw [va_up_lit _ _ _ _ (by decide), va_up_lit _ _ _ _ (by decide), t4 4 (by decide) (by decide)]; exact z2
    · rw [va_up_lit _ _ _ _ (by decide), va_up_lit _ _ _ _ (by decide), t4 5 (by decide) (by decide)]; exact zx2
    · rw [hx4.2.2 xx zx1, zx3]; unfold mixΘ; rw [va_up_lit _ _ _ _ (by decide), va_up_lit _ _ _ _ (by decide)]
    · rw [va_up_lit _ _ _ _ (by decide), va_up_eq]
    · rw [ed4, dy, du]; unfold mixΘ; rw [va_up_eq, e]; rfl
    · rw [va_up_lit _ _ _ _ (by decide), va_up_lit _ _ _ _ (by decide), hS4 7 (by decide), va_up_eq]
    · rw [hx4.2.2 w hw, ed2, hy3', ed]; unfold mixΘ; rw [va_up_lit _ _ _ _ (by decide), va_up_eq, e]; rfl
    · unfold mixΘ; rw [va_up_lit _ _ _ _ (by decide), va_up_eq]; exact nd_ne
    · rw [va_up_eq, va_up_eq]
    · rw [va_up_lit _ _ _ _ (by decide), va_up_lit _ _ _ _ (by decide), t4 9 (by decide) (by decide), va_up_lit _ _ _ _ (by decide)]; exact z6a
    · rw [va_up_lit _ _ _ _ (by decide), va_up_lit _ _ _ _ (by decide), t4 10 (by decide) (by decide), va_up_lit _ _ _ _ (by decide)]; exact z6b
    · rw [va_up_lit _ _ _ _ (by decide), va_up_lit _ _ _ _ (by decide), t4 11 (by decide) (by decide), va_up_lit _ _ _ _ (by decide)]; exact z6c
    · rw [tA 25 (by decide), va_up_lit _ _ _ _ (by decide)]; exact za
    · rw [tA 26 (by decide), va_up_lit _ _ _ _ (by decide)]; exact zb
    · rw [tA 27 (by decide), va_up_lit _ _ _ _ (by decide)]; exact zc
    · rw [tA 35 (by decide), va_up_lit _ _ _ _ (by decide)]; exact zd
    · unfold iOK at zi ⊢
      rw [va_up_lit _ _ _ _ (by decide), va_up_lit _ _ _ _ (by decide), va_up_lit _ _ _ _ (by decide), va_up_lit _ _ _ _ (by decide), va_up_lit _ _ _ _ (by decide), va_up_lit _ _ _ _ (by decide), va_up_lit _ _ _ _ (by decide)]
      exact zi
  · rw [va_up_lit _ _ _ _ (by omega), va_up_lit _ _ _ _ (by omega), hS4 q' (by omega), va_up_lit _ _ _ _ (by omega), hS2 q' (by omega), hS1 q' (by omega)]
  · rw [hA4 p' hp', hA2 p' hp', hA1 p' hp']
end MO3
