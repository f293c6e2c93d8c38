/-- the window of the reference: bit j stands for the counter top - j -/
def wnd (W top : Int32) (K : Nat → Int32) : Prop := (∃ w, w < 256 ∧ W = nI w) ∧ ((top = -1 ∧ W = 0 ∧ ∀ j, K j = 0) ∨ ∃ t, t < 60 ∧ top = nI t ∧ (∀ j, t < j → K j = 0) ∧ ∀ j, j < 8 → j ≤ t → (W.toNatClampNeg.testBit j = true ↔ K (t - j) ≠ 0))
/-- what the reference holds of the session s -/
def sV (A : Nat → Nat → Int32) (s n : Nat) (den : Nat → zT) (v : zV) : Prop :=
  (A 25 s = v.1 0 ∧ A 26 s = v.1 1 ∧ A 27 s = v.1 2 ∧ A 28 s = v.1 3 ∧ A 29 s = v.1 5 ∧ A 30 s = v.1 4) ∧ (∃ x, x < n ∧ A 31 s = nI x ∧ den x = v.2.1 0) ∧ (∃ y, y < n ∧ A 32 s = nI y ∧ den y = v.2.1 1) ∧ kid (A 33 s) n den (v.2.1 2) ∧ (A 34 s = v.1 6 ∧ A 35 s = v.1 7 ∧ A 36 s = v.1 8 ∧ A 37 s = v.1 9 ∧ A 38 s = v.1 10 ∧ A 39 s = v.1 11 ∧ A 40 s = v.1 12 ∧ A 41 s = v.1 13) ∧ wnd (A 42 s) (v.1 13) v.2.2 ∧ iOK v.1 ∧ (v.1 8 = 0 ∨ v.1 8 = 1)
section MOA
variable {h0 : zH} {S : Nat → Int32} {A : Nat → Nat → Int32} {n s : Nat} {den : Nat → zT} {I : Nat → Int32} {Θ : Nat → zT} {l : List zT} {v : zV}
def ldS (S : Nat → Int32) (A : Nat → Nat → Int32) (s : Nat) : Nat → Int32 := fun q => if q = 4 then nI s else if q = 5 then A 31 s else if q = 6 then A 32 s else if q = 7 then A 33 s else if q = 8 then A 34 s else if q = 9 then A 28 s else if q = 10 then A 29 s else if q = 11 then A 30 s else if q = 13 then 0 else if q = 14 then 0 else S q
set_option maxHeartbeats 4000000 in
theorem c_load (sc : Nat × (Nat → Int32)) (d : Nat) (hW : MW h0 S A n den) (hs : s < 12) (hv : sV A s n den v) : zMt zTab sc (d + 1) 88 [.ref 15, .int (nI s)] h0 0 0 (fun r h' => r = none ∧ MV h' (ldS S A s) A n den s v.1 v.2.1 ∧ frN h0 h') := by
  have o := hW.o
  have a31 := hW.a 31 0 12 (by decide) (by decide) rfl rfl
  have a32 := hW.a 32 0 12 (by decide) (by decide) rfl rfl
  have a33 := hW.a 33 0 12 (by decide) (by decide) rfl rfl
  have a34 := hW.a 34 0 12 (by decide) (by decide) rfl rfl
  have a28 := hW.a 28 0 12 (by decide) (by decide) rfl rfl
  have a29 := hW.a 29 0 12 (by decide) (by decide) rfl rfl
  have a30 := hW.a 30 0 12 (by decide) (by decide) rfl rfl
  have w3 : vp_in (nI s) 12 := vp_in_nI (by omega) (by decide)
  have w4 : (nI s).toNatClampNeg = s := nI_clamp (by omega)
  refine zM_gen fun P hP => ?_
  refine zM_start (r := r_Mo_load) (cd := k_Mo_load) (L0 := [some (.ref 15), some (.int (nI s))]) rfl rfl rfl rfl rfl ?_
  (repeat (refine zS_one rfl ?_; simp (disch := (first | decide | assumption | omega)) only [i_push, i_null, i_ild, i_ald, i_ist, i_ast, i_inc, i_bin, i_div, i_un, i_dup, i_pop, i_dup2, i_if, i_icmp, i_nul, i_nnl, i_goto, i_getf, i_putf, i_gets, i_nald, i_nast, i_aald, i_aast, i_alen, i_new, i_newa, i_newq, i_math, i_oini, i_iret, i_zret, i_aret, i_vret, z_fit, List.getElem?_cons_zero, List.getElem?_cons_succ, List.set_cons_zero, List.set_cons_succ, Nat.reduceAdd, Nat.reduceLT, Nat.reduceLeDiff, Nat.reduceEqDiff, Nat.zero_lt_succ, Value.category, true_and, or_true, true_or, and_true, false_implies, true_implies, not_false_eq_true, not_true_eq_false, List.map_cons, List.map_nil, List.sum_cons, List.sum_nil, va_up_eq, bx_uu, va_up_lit, List.length_cons, List.length_nil, List.drop_succ_cons, List.drop_zero, Option.toList_some, Option.toList_none, List.cons_append, List.nil_append, o, a31, a32, a33, a34, a28, a29, a30, w3, w4]))
  obtain ⟨⟨e25, e26, e27, e28, e29, e30⟩, ex, ey, ek, ⟨e34, e35, -⟩, -, hI, -⟩ := hv
  exact hP _ _ ⟨rfl, ⟨hW.fld (S' := ldS S A s) rfl rfl, hs, rfl, ex, ey, ek, ⟨e34, e28, e29, e30⟩, ⟨e25, e26, e27, e35⟩, hI⟩, frN.put (by decide) (by decide)⟩
def kpA (S : Nat → Int32) (A : Nat → Nat → Int32) (s : Nat) (x y : Int32) : Nat → Nat → Int32 := va_up (va_up (va_up (va_up (va_up (va_up (va_up (va_up (va_up A 31 (upd (A 31) s (S 5))) 32 (upd (A 32) s (S 6))) 33 (upd (A 33) s (S 7))) 34 (upd (A 34) s (S 8))) 28 (upd (A 28) s (S 9))) 29 (upd (A 29) s (S 10))) 30 (upd (A 30) s (S 11))) 35 (upd (A 35) s x)) 37 (upd (A 37) s y)
set_option maxHeartbeats 8000000 in
theorem c_keep (sc : Nat × (Nat → Int32)) (d : Nat) (hV : MV h0 S A n den s I Θ) : zMt zTab sc (d + 2) 89 [.ref 15] h0 0 0 (fun r h' => r = none ∧ MW h' S (kpA S A s (I 7 + 1) (if I 7 + 1 = lim I then 0 else A 37 s)) n den ∧ frN h0 h') := by
  obtain ⟨hW, hs, h4, -, -, -, -, ⟨e25, -, -, e35⟩, -⟩ := id hV
  have o := hW.o
  rw [h4] at o
  have a25 := hW.a 25 0 12 (by decide) (by decide) rfl rfl
  have a31 := hW.a 31 0 12 (by decide) (by decide) rfl rfl
  have a32 := hW.a 32 0 12 (by decide) (by decide) rfl rfl
  have a33 := hW.a 33 0 12 (by decide) (by decide) rfl rfl
  have a34 := hW.a 34 0 12 (by decide) (by decide) rfl rfl
  have a28 := hW.a 28 0 12 (by decide) (by decide) rfl rfl
  have a29 := hW.a 29 0 12 (by decide) (by decide) rfl rfl
  have a30 := hW.a 30 0 12 (by decide) (by decide) rfl rfl
  have a35 := hW.a 35 0 12 (by decide) (by decide) rfl rfl
  have a37 := hW.a 37 0 12 (by decide) (by decide) rfl rfl
  have w3 : vp_in (nI s) 12 := vp_in_nI (by omega) (by decide)
  have w4 : (nI s).toNatClampNeg = s := nI_clamp (by omega)
  have us : ∀ (f : Nat → Int32) (x : Int32), upd f s x s = x := fun f x => upd_s
  refine zM_gen fun P hP => ?_
  refine zM_start (r := r_Mo_keep) (cd := k_Mo_keep) (L0 := [some (.ref 15), none]) rfl rfl rfl rfl rfl ?_
  (repeat (refine zS_one rfl ?_; simp (disch := (first | decide | assumption | omega)) only [i_push, i_null, i_ild, i_ald, i_ist, i_ast, i_inc, i_bin, i_div, i_un, i_dup, i_pop, i_dup2, i_if, i_icmp, i_nul, i_nnl, i_goto, i_getf, i_putf, i_gets, i_nald, i_nast, i_aald, i_aast, i_alen, i_new, i_newa, i_newq, i_math, i_oini, i_iret, i_zret, i_aret, i_vret, z_fit, List.getElem?_cons_zero, List.getElem?_cons_succ, List.set_cons_zero, List.set_cons_succ, Nat.reduceAdd, Nat.reduceLT, Nat.reduceLeDiff, Nat.reduceEqDiff, Nat.zero_lt_succ, Value.category, true_and, or_true, true_or, and_true, false_implies, true_implies, not_false_eq_true, not_true_eq_false, List.map_cons, List.map_nil, List.sum_cons, List.sum_nil, va_up_eq, bx_uu, va_up_lit, List.length_cons, List.length_nil, List.drop_succ_cons, List.drop_zero, Option.toList_some, Option.toList_none, List.cons_append, List.nil_append, o, a25, a31, a32, a33, a34, a28, a29, a30, a35, a37, w3, w4, e35, us, e25]))
  (try refine zS_one rfl ?_)
  refine r_callS (c_last sc d _ (I 0)) rfl rfl rfl rfl (Nat.le_refl _) (Nat.le_refl _) ?_
  rintro r h1 ⟨rfl, rfl⟩
  have fin : ∀ x y : Int32, x = I 7 + 1 → y = (if I 7 + 1 = lim I then 0 else A 37 s) → P none (va_up (va_up (va_up (va_up (va_up (va_up (va_up (va_up (va_up h0.1 31 (.inl (0, 12, .inl (upd (A 31) s (S 5))))) 32 (.inl (0, 12, .inl (upd (A 32) s (S 6))))) 33 (.inl (0, 12, .inl (upd (A 33) s (S 7))))) 34 (.inl (0, 12, .inl (upd (A 34) s (S 8))))) 28 (.inl (0, 12, .inl (upd (A 28) s (S 9))))) 29 (.inl (0, 12, .inl (upd (A 29) s (S 10))))) 30 (.inl (0, 12, .inl (upd (A 30) s (S 11))))) 35 (.inl (0, 12, .inl (upd (A 35) s x)))) 37 (.inl (0, 12, .inl (upd (A 37) s y))), h0.2) := by
    intro x y hx hy
    have := (((((((((hW.put 31 (upd (A 31) s (S 5)) (kd := 0) (ln := 12) (by decide) (by decide) rfl rfl).put 32 (upd (A 32) s (S 6)) (kd := 0) (ln := 12) (by decide) (by decide) rfl rfl).put 33 (upd (A 33) s (S 7)) (kd := 0) (ln := 12) (by decide) (by decide) rfl rfl).put 34 (upd (A 34) s (S 8)) (kd := 0) (ln := 12) (by decide) (by decide) rfl rfl).put 28 (upd (A 28) s (S 9)) (kd := 0) (ln := 12) (by decide) (by decide) rfl rfl).put 29 (upd (A 29) s (S 10)) (kd := 0) (ln := 12) (by decide) (by decide) rfl rfl).put 30 (upd (A 30) s (S 11)) (kd := 0) (ln := 12) (by decide) (by decide) rfl rfl).put 35 (upd (A 35) s x) (kd := 0) (ln := 12) (by decide) (by decide) rfl rfl).put 37 (upd (A 37) s y) (kd := 0) (ln := 12) (by decide) (by decide) rfl rfl)
    refine hP none _ ⟨rfl, ?_, ⟨fun q hq => ?_, rfl⟩⟩
    · rw [← hy, ← hx]
      exact this
    · simp (disch := omega) only [va_up_lit]
  by_cases z : I 7 + 1 = lim I
  · have z' : I 7 + 1 = (if I 0 = 0 then 3 else 2) := z
    (repeat (refine zS_one rfl ?_; simp (disch := (first | decide | assumption | omega)) only [i_push, i_null, i_ild, i_ald, i_ist, i_ast, i_inc, i_bin, i_div, i_un, i_dup, i_pop, i_dup2, i_if, i_icmp, i_nul, i_nnl, i_goto, i_getf, i_putf, i_gets, i_nald, i_nast, i_aald, i_aast, i_alen, i_new, i_newa, i_newq, i_math, i_oini, i_iret, i_zret, i_aret, i_vret, z_fit, List.getElem?_cons_zero, List.getElem?_cons_succ, List.set_cons_zero, List.set_cons_succ, Nat.reduceAdd, Nat.reduceLT, Nat.reduceLeDiff, Nat.reduceEqDiff, Nat.zero_lt_succ, Value.category, true_and, or_true, true_or, and_true, false_implies, true_implies, not_false_eq_true, not_true_eq_false, List.map_cons, List.map_nil, List.sum_cons, List.sum_nil, va_up_eq, bx_uu, va_up_lit, List.length_cons, List.length_nil, List.drop_succ_cons, List.drop_zero, Option.toList_some, Option.toList_none, List.cons_append, List.nil_append, o, a25, a31, a32, a33, a34, a28, a29, a30, a35, a37, w3, w4, z', us]))
    exact fin _ 0 z'.symm (by rw [if_pos z])
  · have z' : ¬ I 7 + 1 = (if I 0 = 0 then 3 else 2) := z
    (repeat (refine zS_one rfl ?_; simp (disch := (first | decide | assumption | omega)) only [i_push, i_null, i_ild, i_ald, i_ist, i_ast, i_inc, i_bin, i_div, i_un, i_dup, i_pop, i_dup2, i_if, i_icmp, i_nul, i_nnl, i_goto, i_getf, i_putf, i_gets, i_nald, i_nast, i_aald, i_aast, i_alen, i_new, i_newa, i_newq, i_math, i_oini, i_iret, i_zret, i_aret, i_vret, z_fit, List.getElem?_cons_zero, List.getElem?_cons_succ, List.set_cons_zero, List.set_cons_succ, Nat.reduceAdd, Nat.reduceLT, Nat.reduceLeDiff, Nat.reduceEqDiff, Nat.zero_lt_succ, Value.category, true_and, or_true, true_or, and_true, false_implies, true_implies, not_false_eq_true, not_true_eq_false, List.map_cons, List.map_nil, List.sum_cons, List.sum_nil, va_up_eq, bx_uu, va_up_lit, List.length_cons, List.length_nil, List.drop_succ_cons, List.drop_zero, Option.toList_some, Option.toList_none, List.cons_append, List.nil_append, o, a25, a31, a32, a33, a34, a28, a29, a30, a35, a37, w3, w4, z', us]))
    exact fin _ (A 37 s) rfl (by rw [if_neg z])
end MOA
