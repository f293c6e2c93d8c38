theorem rw_M_kd {k v a b c : Int32} {den : Nat → zT} {m : Nat} {τ : zT} (h : rw_M k v a b c den m τ) : tkd τ = k.toInt := by
  rcases h with ⟨rfl, -, -, -, h⟩ | ⟨rfl, -, -, -, -, h⟩ | ⟨rfl, -, -, -, p, q, -, -, -, h⟩ | ⟨-, x, y, -, -, -, -, -, -, h⟩ | ⟨rfl, x, -, -, -, -, h⟩ | ⟨rfl, x, y, z, -, -, -, -, -, -, h⟩ <;> rw [h] <;> rfl
theorem TM.kd {A : Nat → Nat → Int32} {n : Nat} {den : Nat → zT} (hT : TM A n den) {t : Nat} (ht : t < n) (w : Int32) : A 16 t = w ↔ tkd (den t) = w.toInt := by
  rw [rw_M_kd (hT.2.1 t ht)]
  exact ⟨fun h => by rw [h], fun h => i32_inj h⟩
theorem seal_row {A : Nat → Nat → Int32} {n : Nat} {den : Nat → zT} {I : Nat → Int32} {Θ : Nat → zT} (hT : TM A n den) {p zk x : Nat} (hp : p < n) (hz : zk < n) (ez : den zk = Θ 2) (hne : Θ 2 ≠ []) (hx : x < n) (ex : den x = Θ 0) : (A 16 p = 8 ∧ A 18 p = nI zk ∧ A 17 p = I 6 ∧ A 19 p = nI x ∧ ∃ z, z < p ∧ A 20 p = nI z ∧ opnF I Θ (den p) = some (den z)) ∨ (opnF I Θ (den p) = none ∧ ¬ (A 16 p = 8 ∧ A 18 p = nI zk ∧ A 17 p = I 6 ∧ A 19 p = nI x)) := by
  have hr := hT.2.1 p hp
  have h12 := hT.1
  by_cases hc : A 16 p = 8 ∧ A 18 p = nI zk ∧ A 17 p = I 6 ∧ A 19 p = nI x
  · refine Or.inl ⟨hc.1, hc.2.1, hc.2.2.1, hc.2.2.2, ?_⟩
    obtain ⟨c1, c2, c3, c4⟩ := hc
    rcases hr with ⟨hk, -⟩ | ⟨hk, -⟩ | ⟨hk, -⟩ | ⟨hk, -⟩ | ⟨hk, -⟩ | ⟨hk, x', y', z', h1, h2, h3, e1, e2, e3, ed⟩
    · rw [c1] at hk; exact absurd hk (by decide)
    · rw [c1] at hk; exact absurd hk (by decide)
    · rw [c1] at hk; exact absurd hk (by decide)
    · rw [c1] at hk; exact absurd hk (by decide)
    · rw [c1] at hk; exact absurd hk (by decide)
    · have r1 := nI_inj (by omega) (by omega) (e1.symm.trans c2)
      have r2 := nI_inj (by omega) (by omega) (e2.symm.trans c4)
      subst r1 r2
      refine ⟨z', h3, e3, opn_F.mp (Or.inr ⟨hne, ?_⟩)⟩
      rw [ed, c3, ez, ex]
  · refine Or.inr ⟨?_, hc⟩
    cases ho : opnF I Θ (den p) with
    | none => rfl
    | some Z =>
      exfalso
      rcases opn_F.mpr ho with ⟨h1, -⟩ | ⟨-, h2⟩
      · exact hne h1
      · apply hc
        have k8 : A 16 p = 8 := (hT.kd hp 8).mpr (by rw [h2]; rfl)
        rcases hr with ⟨hk, -⟩ | ⟨hk, -⟩ | ⟨hk, -⟩ | ⟨hk, -⟩ | ⟨hk, -⟩ | ⟨hk, x', y', z', h1, h2', h3, e1, e2, e3, ed⟩
        · rw [k8] at hk; exact absurd hk (by decide)
        · rw [k8] at hk; exact absurd hk (by decide)
        · rw [k8] at hk; exact absurd hk (by decide)
        · rw [k8] at hk; exact absurd hk (by decide)
        · rw [k8] at hk; exact absurd hk (by decide)
        · obtain ⟨-, n1, -, n2, n3, -⟩ := nd_inj (ed.symm.trans h2)
          have r1 := hT.2.2 x' zk (by omega) hz (n2.trans ez.symm)
          have r2 := hT.2.2 y' x (by omega) hx (n3.trans ex.symm)
          subst r1 r2
          exact ⟨k8, e1, i32_inj n1, e2⟩
def RD (h : zH) (S : Nat → Int32) (A : Nat → Nat → Int32) (n : Nat) (den : Nat → zT) (s : Nat) (l : List zT) (at' : Nat) (I : Nat → Int32) (Θ : Nat → zT) : Prop := MV h S A n den s I Θ ∧ pB S A n den l ∧ S 13 = nI at' ∧ S 14 = 0
def faQ (h0 : zH) (S : Nat → Int32) (A : Nat → Nat → Int32) (n : Nat) (den : Nat → zT) (c : Nat) (h' : zH) : Prop := ∃ n' den' S' A', MW h' S' A' n' den' ∧ S' 14 = 1 ∧ exM n den n' den' c ∧ (∀ q, q = 1 ∨ q = 2 ∨ q = 3 ∨ q = 4 → S' q = S q) ∧ (∀ p, 20 < p → A' p = A p) ∧ frN h0 h'
section MO6
variable {h0 : zH} {S : Nat → Int32} {A : Nat → Nat → Int32} {n s at' : Nat} {den : Nat → zT} {I : Nat → Int32} {Θ : Nat → zT} {l : List zT}
set_option maxHeartbeats 4000000 in
theorem c_nextPart (sc : Nat × (Nat → Int32)) (d : Nat) (hR : RD h0 S A n den s l at' I Θ) (hat : at' ≤ 4) : zMt zTab sc (d + 1) 94 [.ref 15] h0 0 0 (fun r h' => RD h' (va_up S 13 (nI (at' + 1))) A n den s l (at' + 1) I Θ ∧ frN h0 h' ∧ ((∃ t τ, l[at']? = some τ ∧ r = some (.int (nI t)) ∧ t < n ∧ den t = τ) ∨ (r = some (.int (-1)) ∧ l[at']? = none))) := by
  obtain ⟨hV, hB, h13, h14⟩ := id hR
  have hW := hV.1
  have o := hW.o
  rw [h13, hB.1] at o
  have a43 := hW.a 43 0 3 (by decide) (by decide) rfl rfl
  have w5 : nI (at' + 1) - 1 = nI at' := by rw [← nI_1 at']; exact Int32.add_sub_cancel _ _
  have hR3 : ∀ fs, fs = mF (va_up S 13 (nI (at' + 1))) → RD (va_up h0.1 15 (.inr (6, fs)), h0.2) (va_up S 13 (nI (at' + 1))) A n den s l (at' + 1) I Θ := fun fs hfs =>
    ⟨hV.move (c := 0) (hW.fld hfs (va_up_lit _ _ _ _ (by decide))) exM.rf (fun q h1 h2 => va_up_lit _ _ _ _ (by omega)) (fun p h1 h2 => rfl), hB.ext (c := 0) exM.rf (va_up_lit _ _ _ _ (by decide)) rfl, va_up_eq _ _ _, (va_up_lit _ _ _ _ (by decide)).trans h14⟩
  have hl3 := hB.2.1
  refine zM_gen fun P hP => ?_
  refine zM_start (r := r_Mo_nextPart) (cd := k_Mo_nextPart) (L0 := [some (.ref 15)]) rfl rfl rfl rfl rfl ?_
  by_cases z : at' < l.length
  · have w : ¬ nI l.length < nI (at' + 1) := fun q => by
      have := (nI_ltI (by omega) (by omega)).mp q
      omega
    have w3 : vp_in (nI at') 3 := vp_in_nI (by omega) (by decide)
    have w4 : (nI at').toNatClampNeg = at' := nI_clamp (by omega)
    have hj : l[at']? = some l[at'] := List.getElem?_eq_getElem z
    obtain ⟨t, ht, e, ed⟩ := hB.2.2 at' _ hj
    (repeat (refine zS_one rfl ?_; simp (disch := (first | decide | assumption | omega)) only [i_push, i_null, i_ild, i_ald, i_ist, i_ast, i_inc, i_bin, i_div, i_un, i_dup, i_pop, i_dup2, i_if, i_icmp, i_nul, i_nnl, i_goto, i_getf, i_putf, i_gets, i_nald, i_nast, i_aald, i_aast, i_alen, i_new, i_newa, i_newq, i_math, i_oini, i_iret, i_zret, i_aret, i_vret, z_fit, List.getElem?_cons_zero, List.getElem?_cons_succ, List.set_cons_zero, List.set_cons_succ, Nat.reduceAdd, Nat.reduceLT, Nat.reduceLeDiff, Nat.reduceEqDiff, Nat.zero_lt_succ, Value.category, true_and, or_true, true_or, and_true, false_implies, true_implies, not_false_eq_true, not_true_eq_false, List.map_cons, List.map_nil, List.sum_cons, List.sum_nil, va_up_eq, bx_uu, va_up_lit, List.length_cons, List.length_nil, List.drop_succ_cons, List.drop_zero, Option.toList_some, Option.toList_none, List.cons_append, List.nil_append, o, a43, w, w3, w4, w5, nI_1', e]))
    exact hP _ _ ⟨hR3 _ (by unfold mF; simp (disch := decide) only [va_up_eq, va_up_lit, hB.1]), frN.put (by decide) (by decide), Or.inl ⟨t, _, hj, rfl, ht, ed⟩⟩
  · have w : nI l.length < nI (at' + 1) := (nI_ltI (by omega) (by omega)).mpr (by omega)
    (repeat (refine zS_one rfl ?_; simp (disch := (first | decide | assumption | omega)) only [i_push, i_null, i_ild, i_ald, i_ist, i_ast, i_inc, i_bin, i_div, i_un, i_dup, i_pop, i_dup2, i_if, i_icmp, i_nul, i_nnl, i_goto, i_getf, i_putf, i_gets, i_nald, i_nast, i_aald, i_aast, i_alen, i_new, i_newa, i_newq, i_math, i_oini, i_iret, i_zret, i_aret, i_vret, z_fit, List.getElem?_cons_zero, List.getElem?_cons_succ, List.set_cons_zero, List.set_cons_succ, Nat.reduceAdd, Nat.reduceLT, Nat.reduceLeDiff, Nat.reduceEqDiff, Nat.zero_lt_succ, Value.category, true_and, or_true, true_or, and_true, false_implies, true_implies, not_false_eq_true, not_true_eq_false, List.map_cons, List.map_nil, List.sum_cons, List.sum_nil, va_up_eq, bx_uu, va_up_lit, List.length_cons, List.length_nil, List.drop_succ_cons, List.drop_zero, Option.toList_some, Option.toList_none, List.cons_append, List.nil_append, o, a43, w, nI_1']))
    exact hP _ _ ⟨hR3 _ (by unfold mF; simp (disch := decide) only [va_up_eq, va_up_lit, hB.1]), frN.put (by decide) (by decide), Or.inr ⟨rfl, List.getElem?_eq_none (by omega)⟩⟩
end MO6
