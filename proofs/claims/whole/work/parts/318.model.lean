theorem TM.drop {A : Nat → Nat → Int32} {n n' c : Nat} {den den' : Nat → zT} (hT : TM A n' den') (hx : exM n den n' den' c) : TM A n den := by
  obtain ⟨h1, h2, h3⟩ := hT
  refine ⟨Nat.le_trans hx.1 h1, fun t ht => ?_, fun t u ht hu e => ?_⟩
  · have := h2 t (Nat.lt_of_lt_of_le ht hx.1)
    rw [hx.2.2 t ht] at this
    exact rw_M_mono this (Nat.le_refl _) (fun x hx' => (hx.2.2 x (by omega)).symm)
  · exact h3 t u (Nat.lt_of_lt_of_le ht hx.1) (Nat.lt_of_lt_of_le hu hx.1) (by rw [hx.2.2 t ht, hx.2.2 u hu]; exact e)
section MOH
variable {h0 : zH} {S : Nat → Int32} {A : Nat → Nat → Int32} {ns n made m : Nat} {den : Nat → zT} {G : Nat → Int32} {ps : Nat → List zT} {V : Nat → zV}
theorem MO.mv {h' : zH} {S' : Nat → Int32} {A' : Nat → Nat → Int32} {n' c : Nat} {den' : Nat → zT} (hM : MO h0 ns n made den G m ps V S A) (hW : MW h' S' A' n' den') (hx : exM n den n' den' c) (hS : S' 1 = S 1 ∧ S' 2 = S 2 ∧ S' 3 = S 3) (hA : ∀ p, 22 ≤ p → p ≤ 42 → A' p = A p) : MO h' ns n' made den' G m ps V S' A' := by
  obtain ⟨-, ⟨s1, s2, s3⟩, hb, hg, hr, hv, hz⟩ := hM
  refine ⟨hW, ⟨hS.1.trans s1, hS.2.1.trans s2, hS.2.2.trans s3⟩, hb, fun j hj => by rw [hA 24 (by decide) (by decide)]; exact hg j hj, fun i hi => ?_, fun s hs => (hv s hs).ext hx (fun p h1 h2 => by rw [hA p (by omega) h2]), fun p t h1 h2 h3 h4 => by rw [hA p (by omega) h2]; exact hz p t h1 h2 h3 h4⟩
  obtain ⟨r1, r2, r3⟩ := hr i hi
  refine ⟨by rw [hA 22 (by decide) (by decide)]; exact r1, r2, fun j τ hj => ?_⟩
  obtain ⟨t, ht, e, ed⟩ := r3 j τ hj
  exact ⟨t, Nat.lt_of_lt_of_le ht hx.1, by rw [hA 23 (by decide) (by decide)]; exact e, (hx.2.2 t ht).trans ed⟩
def tkA (A : Nat → Nat → Int32) (s : Nat) (v : Int32) : Nat → Nat → Int32 := va_up (va_up A 38 (upd (A 38) s v)) 39 (upd (A 39) s (A 39 s + 1))
set_option maxHeartbeats 4000000 in
theorem c_took (sc : Nat × (Nat → Int32)) (d : Nat) (hW : MW h0 S A n den) {s : Nat} (hs : s < 12) (v : Int32) : zMt zTab sc (d + 1) 104 [.ref 15, .int (nI s), .int v] h0 0 0 (fun r h' => r = none ∧ MW h' S (tkA A s v) n den ∧ frN h0 h') := by
  have o := hW.o
  have a38 := hW.a 38 0 12 (by decide) (by decide) rfl rfl
  have a39 := hW.a 39 0 12 (by decide) (by decide) rfl rfl
  have w3 : vp_in (nI s) 12 := vp_in_nI (by omega) (by decide)
  have w4 : (nI s).toNatClampNeg = s := nI_clamp (by omega)
  refine zM_gen fun P hP => ?_
  refine zM_start (r := r_Mo_took) (cd := k_Mo_took) (L0 := [some (.ref 15), some (.int (nI s)), some (.int v)]) rfl rfl rfl rfl rfl ?_
  (repeat (refine zS_one rfl ?_; simp (disch := (first | decide | assumption | omega)) only [i_push, i_null, i_ild, i_ald, i_ist, i_ast, i_inc, i_bin, i_div, i_un, i_dup, i_pop, i_dup2, i_if, i_icmp, i_nul, i_nnl, i_goto, i_getf, i_putf, i_gets, i_nald, i_nast, i_aald, i_aast, i_alen, i_new, i_newa, i_newq, i_math, i_oini, i_iret, i_zret, i_aret, i_vret, z_fit, List.getElem?_cons_zero, List.getElem?_cons_succ, List.set_cons_zero, List.set_cons_succ, Nat.reduceAdd, Nat.reduceLT, Nat.reduceLeDiff, Nat.reduceEqDiff, Nat.zero_lt_succ, Value.category, true_and, or_true, true_or, and_true, false_implies, true_implies, not_false_eq_true, not_true_eq_false, List.map_cons, List.map_nil, List.sum_cons, List.sum_nil, va_up_eq, bx_uu, va_up_lit, List.length_cons, List.length_nil, List.drop_succ_cons, List.drop_zero, Option.toList_some, Option.toList_none, List.cons_append, List.nil_append, o, a38, a39, w3, w4]))
  have := (hW.put 38 (upd (A 38) s v) (kd := 0) (ln := 12) (by decide) (by decide) rfl rfl).put 39 (upd (A 39) s (A 39 s + 1)) (kd := 0) (ln := 12) (by decide) (by decide) rfl rfl
  exact hP _ _ ⟨rfl, this, (frN.put (by decide) (by decide)).tr (frN.put (by decide) (by decide))⟩
theorem took_sV {s : Nat} {I : Nat → Int32} {Θ : Nat → zT} {K : Nat → Int32} {v : Int32} (h : sV A s n den (I, Θ, K)) : sV (tkA A s v) s n den (noteI I v, Θ, K) := by
  have tq : ∀ p, p ≠ 38 → p ≠ 39 → tkA A s v p = A p := fun p h1 h2 => (va_up_lit _ _ _ _ h2).trans (va_up_lit _ _ _ _ h1)
  have ti : ∀ q, q ≠ 10 → q ≠ 11 → noteI I v q = I q := fun q h1 h2 => (va_up_lit _ _ _ _ h2).trans (va_up_lit _ _ _ _ h1)
  obtain ⟨⟨e25, e26, e27, e28, e29, e30⟩, ex, ey, ek, ⟨e34, e35, e36, e37, e38, e39, e40, e41⟩, ew, hI, h8⟩ := h
  refine ⟨⟨?_, ?_, ?_, ?_, ?_, ?_⟩, ?_, ?_, ?_, ⟨?_, ?_, ?_, ?_, ?_, ?_, ?_, ?_⟩, ?_, ?_, ?_⟩
  · rw [tq 25 (by decide) (by decide)]; exact e25.trans (ti 0 (by decide) (by decide)).symm
  · rw [tq 26 (by decide) (by decide)]; exact e26.trans (ti 1 (by decide) (by decide)).symm
  · rw [tq 27 (by decide) (by decide)]; exact e27.trans (ti 2 (by decide) (by decide)).symm
  · rw [tq 28 (by decide) (by decide)]; exact e28.trans (ti 3 (by decide) (by decide)).symm
  · rw [tq 29 (by decide) (by decide)]; exact e29.trans (ti 5 (by decide) (by decide)).symm
  · rw [tq 30 (by decide) (by decide)]; exact e30.trans (ti 4 (by decide) (by decide)).symm
  · rw [tq 31 (by decide) (by decide)]; exact ex
  · rw [tq 32 (by decide) (by decide)]; exact ey
  · rw [tq 33 (by decide) (by decide)]; exact ek
  · rw [tq 34 (by decide) (by decide)]; exact e34.trans (ti 6 (by decide) (by decide)).symm
  · rw [tq 35 (by decide) (by decide)]; exact e35.trans (ti 7 (by decide) (by decide)).symm
  · rw [tq 36 (by decide) (by decide)]; exact e36.trans (ti 8 (by decide) (by decide)).symm
  · rw [tq 37 (by decide) (by decide)]; exact e37.trans (ti 9 (by decide) (by decide)).symm
  · unfold tkA noteI
    simp (disch := decide) only [va_up_eq, va_up_lit]
    exact upd_s
  · unfold tkA noteI
    simp (disch := decide) only [va_up_eq]
    rw [upd_s, e39]
  · rw [tq 40 (by decide) (by decide)]; exact e40.trans (ti 12 (by decide) (by decide)).symm
  · rw [tq 41 (by decide) (by decide)]; exact e41.trans (ti 13 (by decide) (by decide)).symm
  · rw [tq 42 (by decide) (by decide)]
    show wnd _ (noteI I v 13) K
    rw [ti 13 (by decide) (by decide)]
    exact ew
  · show iOK (noteI I v)
    unfold iOK at hI ⊢
    rw [ti 0 (by decide) (by decide), ti 1 (by decide) (by decide), ti 2 (by decide) (by decide), ti 3 (by decide) (by decide), ti 4 (by decide) (by decide), ti 5 (by decide) (by decide), ti 7 (by decide) (by decide)]
    exact hI
  · show noteI I v 8 = 0 ∨ noteI I v 8 = 1
    rw [ti 8 (by decide) (by decide)]
    exact h8
end MOH
