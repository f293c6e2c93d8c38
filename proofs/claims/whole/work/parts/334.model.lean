def pt (A : Nat → Nat → Int32) (p s : Nat) (v : Int32) : Nat → Nat → Int32 := va_up A p (upd (A p) s v)
def colQ (A A' : Nat → Nat → Int32) (s : Nat) (c : Nat → Int32) : Prop := (∀ p t, 20 < p → p < 43 → t ≠ s → A' p t = A p t) ∧ (A' 22 = A 22 ∧ A' 23 = A 23 ∧ A' 24 = A 24) ∧ ∀ p, 25 ≤ p → p ≤ 42 → A' p s = c p
theorem colQ.put {A A' : Nat → Nat → Int32} {s : Nat} {c : Nat → Int32} (h : colQ A A' s c) (p : Nat) (v : Int32) (h1 : 25 ≤ p) : colQ A (pt A' p s v) s (va_up c p v) := by
  obtain ⟨g1, ⟨g2, g3, g4⟩, g5⟩ := h
  refine ⟨fun q t q1 q2 q3 => ?_, ⟨(va_up_lit _ _ _ _ (by omega)).trans g2, (va_up_lit _ _ _ _ (by omega)).trans g3, (va_up_lit _ _ _ _ (by omega)).trans g4⟩, fun q q1 q2 => ?_⟩
  · unfold pt
    by_cases z : q = p
    · subst z; rw [va_up_eq, upd_n q3]; exact g1 q t q1 q2 q3
    · rw [va_up_lit _ _ _ _ z]; exact g1 q t q1 q2 q3
  · unfold pt
    by_cases z : q = p
    · subst z; rw [va_up_eq, va_up_eq, upd_s]
    · rw [va_up_lit _ _ _ _ z, va_up_lit _ _ _ _ z]; exact g5 q q1 q2
theorem colQ.mv {A A' A2 : Nat → Nat → Int32} {s : Nat} {c : Nat → Int32} (h : colQ A A' s c) (h2 : ∀ p, 20 < p → A2 p = A' p) : colQ A A2 s c := by
  obtain ⟨g1, ⟨g2, g3, g4⟩, g5⟩ := h
  exact ⟨fun q t q1 q2 q3 => by rw [h2 q q1]; exact g1 q t q1 q2 q3, ⟨(h2 22 (by decide)).trans g2, (h2 23 (by decide)).trans g3, (h2 24 (by decide)).trans g4⟩, fun q q1 q2 => by rw [h2 q (by omega)]; exact g5 q q1 q2⟩
section MOU
variable {h0 : zH} {S : Nat → Int32} {A : Nat → Nat → Int32} {ns n made m : Nat} {den : Nat → zT} {G : Nat → Int32} {ps : Nat → List zT} {V : Nat → zV}
/-- a new session -/
theorem MO.ses {h' : zH} {S' : Nat → Int32} {A' : Nat → Nat → Int32} {n' c : Nat} {den' : Nat → zT} {p i own oth prol : Int32} {cl : Nat → Int32} {x y : Nat} (hM : MO h0 ns n made den G m ps V S A) (hns : ns < 12) (hp : p = 0 ∨ p = 1) (hi : i = 0 ∨ i = 1) (ho : key20 own) (ht : key20 oth) (hx : exM n den n' den' c) (hW : MW h' S' A' n' den') (hS : S' 1 = S 1 ∧ S' 2 = S 2 ∧ S' 3 = nI (ns + 1)) (hC : colQ A A' ns cl)
    (hcl : cl = va_up (va_up (va_up (va_up (va_up (va_up (va_up (va_up (fun _ => 0) 25 p) 26 i) 27 own) 30 oth) 32 (nI y)) 31 (nI x)) 33 (-1)) 41 (-1)) (hx1 : x < n') (hx2 : den' x = bgΘ p i own oth prol 0) (hy1 : y < n') (hy2 : den' y = bgΘ p i own oth prol 1) : MO h' (ns + 1) n' made den' G m ps (va_up V ns (stI p i own oth, bgΘ p i own oth prol, fun _ => 0)) S' A' := by
  obtain ⟨-, ⟨s1, s2, s3⟩, ⟨b1, b2, b3⟩, hg, hr, hvv, hzz⟩ := hM
  obtain ⟨g1, ⟨g2, g3, g4⟩, g5⟩ := hC
  refine ⟨hW, ⟨hS.1.trans s1, hS.2.1.trans s2, hS.2.2⟩, ⟨by omega, b2, b3⟩, fun j hj => by rw [g4]; exact hg j hj, fun a ha => ?_, fun s hs => ?_, fun q t q1 q2 q3 q4 => by rw [g1 q t (by omega) (by omega) (by omega)]; exact hzz q t q1 q2 (by omega) q4⟩
  · obtain ⟨r1, r2, r3⟩ := hr a ha
    refine ⟨by rw [g2]; exact r1, r2, fun j τ hj => ?_⟩
    obtain ⟨t, t1, t2, t3⟩ := r3 j τ hj
    exact ⟨t, Nat.lt_of_lt_of_le t1 hx.1, by rw [g3]; exact t2, (hx.2.2 t t1).trans t3⟩
  · by_cases z : s = ns
    · subst z
      rw [va_up_eq]
      have cc : ∀ q v, 25 ≤ q → q ≤ 42 → cl q = v → A' q s = v := fun q v h1 h2 h3 => (g5 q h1 h2).trans h3
      refine ⟨⟨cc 25 _ (by decide) (by decide) ?_, cc 26 _ (by decide) (by decide) ?_, cc 27 _ (by decide) (by decide) ?_, cc 28 _ (by decide) (by decide) ?_, cc 29 _ (by decide) (by decide) ?_, cc 30 _ (by decide) (by decide) ?_⟩, ⟨x, hx1, cc 31 _ (by decide) (by decide) ?_, hx2⟩, ⟨y, hy1, cc 32 _ (by decide) (by decide) ?_, hy2⟩, Or.inl ⟨cc 33 _ (by decide) (by decide) ?_, rfl⟩, ⟨cc 34 _ (by decide) (by decide) ?_, cc 35 _ (by decide) (by decide) ?_, cc 36 _ (by decide) (by decide) ?_, cc 37 _ (by decide) (by decide) ?_, cc 38 _ (by decide) (by decide) ?_, cc 39 _ (by decide) (by decide) ?_, cc 40 _ (by decide) (by decide) ?_, cc 41 _ (by decide) (by decide) ?_⟩, ?_, ?_, Or.inl rfl⟩
      all_goals first
        | (rw [hcl]; simp (disch := decide) only [va_up_eq, va_up_lit]; done)
        | (rw [hcl]; simp (disch := decide) only [va_up_eq, va_up_lit]; rfl)
        | skip
      · rw [show A' 42 s = 0 from cc 42 0 (by decide) (by decide) (by rw [hcl]; simp (disch := decide) only [va_up_lit])]
        exact ⟨⟨0, by decide, rfl⟩, Or.inl ⟨rfl, rfl, fun _ => rfl⟩⟩
      · exact ⟨by rcases hp with rfl | rfl; exact ⟨0, by decide, rfl⟩; exact ⟨1, by decide, rfl⟩, hi, ho, ⟨0, by decide, rfl⟩, ht, ⟨0, by decide, rfl⟩, 0, by decide, rfl⟩
    · rw [va_up_lit _ _ _ _ z]
      exact (hvv s (by omega)).ext hx (fun q q1 q2 => g1 q s (by omega) (by omega) z)
def stM (h0 : zH) (ns n made : Nat) (den : Nat → zT) (G : Nat → Int32) (m : Nat) (ps : Nat → List zT) (V : Nat → zV) (p i own oth prol : Int32) : zP := fun r h' =>
  (r = some (.int (-1)) ∧ h' = h0 ∧ ¬ stOK p i own oth) ∨ (stOK p i own oth ∧ ((r = some (.int (-4)) ∧ h' = h0 ∧ ns = 12) ∨ (r = some (.int (nI ns)) ∧ ns < 12 ∧ frN h0 h' ∧ ∃ n' den' S' A', exM n den n' den' 5 ∧ MO h' (ns + 1) n' made den' G m ps (va_up V ns (stI p i own (stO p i oth), bgΘ p i own (stO p i oth) prol, fun _ => 0)) S' A')))
set_option maxHeartbeats 16000000 in
theorem Mstart_core (sc : Nat × (Nat → Int32)) (d : Nat) (hM : MO h0 ns n made den G m ps V S A) (hn : n + 5 ≤ 1200) {p i own oth prol : Int32} (hi : i = 0 ∨ i = 1) (hok : stOK p i own oth) {P : zP} (hP : ∀ r h', stM h0 ns n made den G m ps V p i own oth prol r h' → P r h') : zS (zMt zTab sc (d + 2), (0, 0), sc) k_Mo_start P (41, [some (.ref 15), some (.int p), some (.int i), some (.int own), some (.int oth), some (.int prol), none, none, none], [], h0, 0, 0) := by
  have hW := hM.1
  have hn12 := hM.2.2.1.1
  have o := hW.o
  rw [hM.2.1.2.2] at o
  have q10 : ¬ (1 : Int32) = 0 := by decide
  have q01 : ¬ (0 : Int32) = 1 := by decide
  have hp := hok.1
  by_cases hs : ns = 12
  · have w : nI ns = 12 := by rw [hs]; rfl
    (repeat (refine zS_one rfl ?_; simp (disch := (first | decide | assumption | omega)) only [i_push, i_null, i_ild, i_ald, i_ist, i_ast, i_inc, i_bin, i_div, i_un, i_dup, i_pop, i_dup2, i_if, i_icmp, i_nul, i_nnl, i_goto, i_getf, i_putf, i_gets, i_nald, i_nast, i_aald, i_aast, i_alen, i_new, i_newa, i_newq, i_math, i_oini, i_iret, i_zret, i_aret, i_vret, z_fit, List.getElem?_cons_zero, List.getElem?_cons_succ, List.set_cons_zero, List.set_cons_succ, Nat.reduceAdd, Nat.reduceLT, Nat.reduceLeDiff, Nat.reduceEqDiff, Nat.zero_lt_succ, Value.category, true_and, or_true, true_or, and_true, false_implies, true_implies, not_false_eq_true, not_true_eq_false, List.map_cons, List.map_nil, List.sum_cons, List.sum_nil, va_up_eq, bx_uu, va_up_lit, List.length_cons, List.length_nil, List.drop_succ_cons, List.drop_zero, Option.toList_some, Option.toList_none, List.cons_append, List.nil_append, o, w]))
    exact hP _ _ (Or.inr ⟨hok, Or.inl ⟨rfl, rfl, hs⟩⟩)
  have w : ¬ nI ns = 12 := fun z => hs (nI_inj (a := ns) (b := 12) (by omega) (by decide) z)
  have hns : ns < 12 := by omega
  have ho : key20 own := by
    obtain ⟨j, -, hj, e⟩ := st8 hok.2.1.1 hok.2.1.2
    exact ⟨j, by omega, e⟩
  have ht : key20 (stO p i oth) := by
    unfold stO
    by_cases h : p = 1 ∧ ¬ i = 0
    · rw [if_pos h]
      obtain ⟨j, -, hj, e⟩ := st8 (hok.2.2 h).1 (hok.2.2 h).2
      exact ⟨j, by omega, e⟩
    · rw [if_neg h]
      exact ⟨0, by decide, rfl⟩
  have w3 : vp_in (nI ns) 12 := vp_in_nI (by omega) (by decide)
  have w4 : (nI ns).toNatClampNeg = ns := nI_clamp (by omega)
  have hi1 : i &&& 1 = i := by rcases hi with rfl | rfl <;> decide
  have a25 := hW.a 25 0 12 (by decide) (by decide) rfl rfl
  have a26 := hW.a 26 1 12 (by decide) (by decide) rfl rfl
  have a27 := hW.a 27 0 12 (by decide) (by decide) rfl rfl
  have a30 := hW.a 30 0 12 (by decide) (by decide) rfl rfl
  have us : ∀ (f : Nat → Int32) (x : Int32), upd f ns x ns = x := fun f x => upd_s
  generalize hoth : stO p i oth = oth' at *
  have c0 : colQ A A ns (fun _ => 0) := ⟨fun _ _ _ _ _ => rfl, ⟨rfl, rfl, rfl⟩, fun q q1 q2 => hM.2.2.2.2.2.2 q ns q1 q2 (Nat.le_refl _) hns⟩
  have e3 : mF (va_up S 3 (nI (ns + 1))) = [.int (S 0), .ref 16, .ref 17, .ref 18, .ref 19, .ref 20, .ref 21, .int (S 1), .ref 22, .ref 23, .int (S 2), .ref 24, .int (nI (ns + 1)), .ref 25, .ref 26, .ref 27, .ref 28, .ref 29, .ref 30, .ref 31, .ref 32, .ref 33, .ref 34, .ref 35, .ref 36, .ref 37, .ref 38, .ref 39, .ref 40, .ref 41, .ref 42, .int (S 4), .int (S 5), .int (S 6), .int (S 7), .int (S 8), .int (S 9), .int (S 10), .int (S 11), .int (S 12), .ref 43, .int (S 13), .int (S 14)] := by
    unfold mF
    simp (disch := decide) only [va_up_eq, va_up_lit]
  -- the end
  have tail : ∀ (h' : zH) (S' : Nat → Int32) (A' : Nat → Nat → Int32) (n' : Nat) (den' : Nat → zT) (x y : Nat) (l7 l8 : Option Value), MW h' S' A' n' den' → exM n den n' den' 5 → (S' 1 = S 1 ∧ S' 2 = S 2 ∧ S' 3 = nI (ns + 1)) → colQ A A' ns (va_up (va_up (va_up (va_up (va_up (va_up (fun _ => 0) 25 p) 26 i) 27 own) 30 oth') 32 (nI y)) 31 (nI x)) → x < n' → den' x = bgΘ p i own oth' prol 0 → y < n' → den' y = bgΘ p i own oth' prol 1 → frN h0 h' → zS (zMt zTab sc (d + 2), (0, 0), sc) k_Mo_start P (198, [some (.ref 15), some (.int p), some (.int i), some (.int own), some (.int oth), some (.int prol), some (.int (nI ns)), l7, l8], [], h', 0, 0) := by
    intro h' S' A' n' den' x y l7 l8 hW' hx hS hC hx1 hx2 hy1 hy2 hf
    have o' := hW'.o
    have a33 := hW'.a 33 0 12 (by decide) (by decide) rfl rfl
    have a41 := hW'.a 41 0 12 (by decide) (by decide) rfl rfl
    (repeat (refine zS_one rfl ?_; simp (disch := (first | decide | assumption | omega)) only [i_push, i_null, i_ild, i_ald, i_ist, i_ast, i_inc, i_bin, i_div, i_un, i_dup, i_pop, i_dup2, i_if, i_icmp, i_nul, i_nnl, i_goto, i_getf, i_putf, i_gets, i_nald, i_nast, i_aald, i_aast, i_alen, i_new, i_newa, i_newq, i_math, i_oini, i_iret, i_zret, i_aret, i_vret, z_fit, List.getElem?_cons_zero, List.getElem?_cons_succ, List.set_cons_zero, List.set_cons_succ, Nat.reduceAdd, Nat.reduceLT, Nat.reduceLeDiff, Nat.reduceEqDiff, Nat.zero_lt_succ, Value.category, true_and, or_true, true_or, and_true, false_implies, true_implies, not_false_eq_true, not_true_eq_false, List.map_cons, List.map_nil, List.sum_cons, List.sum_nil, va_up_eq, bx_uu, va_up_lit, List.length_cons, List.length_nil, List.drop_succ_cons, List.drop_zero, Option.toList_some, Option.toList_none, List.cons_append, List.nil_append, o', a33, a41, w3, w4]))
    have hW2 := (hW'.put 33 (upd (A' 33) ns (-1)) (kd := 0) (ln := 12) (by decide) (by decide) rfl rfl).put 41 (upd (A' 41) ns (-1)) (kd := 0) (ln := 12) (by decide) (by decide) rfl rfl
    have hC2 := (hC.put 33 (-1) (by decide)).put 41 (-1) (by decide)
    have hMO := hM.ses (c := 5) (prol := prol) (x := x) (y := y) hns hp hi ho ht hx hW2 hS hC2 rfl hx1 hx2 hy1 hy2
    rw [← hoth] at hMO
    exact hP _ _ (Or.inr ⟨hok, Or.inr ⟨rfl, hns, (hf.tr (frN.put (by decide) (by decide))).tr (frN.put (by decide) (by decide)), n', den', S', _, hx, hMO⟩⟩)
  have aft : zS (zMt zTab sc (d + 2), (0, 0), sc) k_Mo_start P (114, [some (.ref 15), some (.int p), some (.int i), some (.int own), some (.int oth), some (.int prol), some (.int (nI ns)), none, none], [.int oth', .int (nI ns), .ref 30], (va_up (va_up (va_up (va_up h0.1 15 (.inr (6, mF (va_up S 3 (nI (ns + 1)))))) 25 (.inl (0, 12, .inl (upd (A 25) ns p)))) 26 (.inl (1, 12, .inl (upd (A 26) ns i)))) 27 (.inl (0, 12, .inl (upd (A 27) ns own))), h0.2), 0, 0) := by
    have hW1 : MW (va_up (va_up (va_up (va_up (va_up h0.1 15 (.inr (6, mF (va_up S 3 (nI (ns + 1)))))) 25 (.inl (0, 12, .inl (upd (A 25) ns p)))) 26 (.inl (1, 12, .inl (upd (A 26) ns i)))) 27 (.inl (0, 12, .inl (upd (A 27) ns own)))) 30 (.inl (0, 12, .inl (upd (A 30) ns oth'))), h0.2) (va_up S 3 (nI (ns + 1))) (pt (pt (pt (pt A 25 ns p) 26 ns i) 27 ns own) 30 ns oth') n den := ((((hW.fld (S' := va_up S 3 (nI (ns + 1))) rfl (va_up_lit _ _ _ _ (by decide))).put 25 (upd (A 25) ns p) (by decide) (by decide) rfl rfl).put 26 (upd (A 26) ns i) (by decide) (by decide) rfl rfl).put 27 (upd (A 27) ns own) (by decide) (by decide) rfl rfl).put 30 (upd (A 30) ns oth') (by decide) (by decide) rfl rfl
    have c1 := (((c0.put 25 p (by decide)).put 26 i (by decide)).put 27 own (by decide)).put 30 oth' (by decide)
    have hF1 : frN h0 (va_up (va_up (va_up (va_up (va_up h0.1 15 (.inr (6, mF (va_up S 3 (nI (ns + 1)))))) 25 (.inl (0, 12, .inl (upd (A 25) ns p)))) 26 (.inl (1, 12, .inl (upd (A 26) ns i)))) 27 (.inl (0, 12, .inl (upd (A 27) ns own)))) 30 (.inl (0, 12, .inl (upd (A 30) ns oth'))), h0.2) := ((((frN.put (by decide) (by decide)).tr (frN.put (by decide) (by decide))).tr (frN.put (by decide) (by decide))).tr (frN.put (by decide) (by decide))).tr (frN.put (by decide) (by decide))
    have a30' : (va_up (va_up (va_up (va_up h0.1 15 (.inr (6, mF (va_up S 3 (nI (ns + 1)))))) 25 (.inl (0, 12, .inl (upd (A 25) ns p)))) 26 (.inl (1, 12, .inl (upd (A 26) ns i)))) 27 (.inl (0, 12, .inl (upd (A 27) ns own)))) 30 = .inl (0, 12, .inl (A 30)) := by simp (disch := decide) only [va_up_lit]; exact a30
    generalize hh1 : (va_up (va_up (va_up (va_up h0.1 15 (.inr (6, mF (va_up S 3 (nI (ns + 1)))))) 25 (.inl (0, 12, .inl (upd (A 25) ns p)))) 26 (.inl (1, 12, .inl (upd (A 26) ns i)))) 27 (.inl (0, 12, .inl (upd (A 27) ns own)))) = H at hW1 hF1 a30'
    generalize hA1 : pt (pt (pt (pt A 25 ns p) 26 ns i) 27 ns own) 30 ns oth' = A1 at hW1 c1
    clear hh1 hA1
    have o1 : H 15 = _ := hW1.o
    (refine zS_one rfl ?_; simp (disch := (first | decide | assumption | omega)) only [i_push, i_null, i_ild, i_ald, i_ist, i_ast, i_inc, i_bin, i_div, i_un, i_dup, i_pop, i_dup2, i_if, i_icmp, i_nul, i_nnl, i_goto, i_getf, i_putf, i_gets, i_nald, i_nast, i_aald, i_aast, i_alen, i_new, i_newa, i_newq, i_math, i_oini, i_iret, i_zret, i_aret, i_vret, z_fit, List.getElem?_cons_zero, List.getElem?_cons_succ, List.set_cons_zero, List.set_cons_succ, Nat.reduceAdd, Nat.reduceLT, Nat.reduceLeDiff, Nat.reduceEqDiff, Nat.zero_lt_succ, Value.category, true_and, or_true, true_or, and_true, false_implies, true_implies, not_false_eq_true, not_true_eq_false, List.map_cons, List.map_nil, List.sum_cons, List.sum_nil, va_up_eq, bx_uu, va_up_lit, List.length_cons, List.length_nil, List.drop_succ_cons, List.drop_zero, Option.toList_some, Option.toList_none, List.cons_append, List.nil_append, a30', w3, w4])
    (repeat (refine zS_one rfl ?_; simp (disch := (first | decide | assumption | omega)) only [i_push, i_null, i_ild, i_ald, i_ist, i_ast, i_inc, i_bin, i_div, i_un, i_dup, i_pop, i_dup2, i_if, i_icmp, i_nul, i_nnl, i_goto, i_getf, i_putf, i_gets, i_nald, i_nast, i_aald, i_aast, i_alen, i_new, i_newa, i_newq, i_math, i_oini, i_iret, i_zret, i_aret, i_vret, z_fit, List.getElem?_cons_zero, List.getElem?_cons_succ, List.set_cons_zero, List.set_cons_succ, Nat.reduceAdd, Nat.reduceLT, Nat.reduceLeDiff, Nat.reduceEqDiff, Nat.zero_lt_succ, Value.category, true_and, or_true, true_or, and_true, false_implies, true_implies, not_false_eq_true, not_true_eq_false, List.map_cons, List.map_nil, List.sum_cons, List.sum_nil, va_up_eq, bx_uu, va_up_lit, List.length_cons, List.length_nil, List.drop_succ_cons, List.drop_zero, Option.toList_some, Option.toList_none, List.cons_append, List.nil_append, o1, w3, w4]))
    (try refine zS_one rfl ?_)
    refine r_callV (c_Mnum sc d hW1 (by omega) p) rfl rfl rfl rfl hW1.f (Nat.le_refl _) (Nat.le_refl _) ?_
    rintro r h2 ⟨t1, n1, den1, S1, A1', rfl, ht1, ed1, hV1, hx1, hS1, hA1', hf1⟩
    have m1 : n1 ≤ n + 1 := hx1.2.1
    have b32 := hV1.a 32 0 12 (by decide) (by decide) rfl rfl
    have hV2 : MW (va_up h2.1 32 (.inl (0, 12, .inl (upd (A1' 32) ns (nI t1)))), h2.2) S1 (pt A1' 32 ns (nI t1)) n1 den1 := hV1.put 32 _ (by decide) (by decide) rfl rfl
    have c2 := (c1.mv hA1').put 32 (nI t1) (by decide)
    have o2 := hV1.o
    (repeat (refine zS_one rfl ?_; simp (disch := (first | decide | assumption | omega)) only [i_push, i_null, i_ild, i_ald, i_ist, i_ast, i_inc, i_bin, i_div, i_un, i_dup, i_pop, i_dup2, i_if, i_icmp, i_nul, i_nnl, i_goto, i_getf, i_putf, i_gets, i_nald, i_nast, i_aald, i_aast, i_alen, i_new, i_newa, i_newq, i_math, i_oini, i_iret, i_zret, i_aret, i_vret, z_fit, List.getElem?_cons_zero, List.getElem?_cons_succ, List.set_cons_zero, List.set_cons_succ, Nat.reduceAdd, Nat.reduceLT, Nat.reduceLeDiff, Nat.reduceEqDiff, Nat.zero_lt_succ, Value.category, true_and, or_true, true_or, and_true, false_implies, true_implies, not_false_eq_true, not_true_eq_false, List.map_cons, List.map_nil, List.sum_cons, List.sum_nil, va_up_eq, bx_uu, va_up_lit, List.length_cons, List.length_nil, List.drop_succ_cons, List.drop_zero, Option.toList_some, Option.toList_none, List.cons_append, List.nil_append, b32, w3, w4, o2]))
    (try refine zS_one rfl ?_)
    refine r_callV (c_Mnum sc d hV2 (by omega) prol) rfl rfl rfl rfl hV2.f (Nat.le_refl _) (Nat.le_refl _) ?_
    rintro r h3 ⟨t2, n2, den2, S2, A2, rfl, ht2, ed2, hV3, hx2, hS2, hA2, hf2⟩
    have m2 : n2 ≤ n1 + 1 := hx2.2.1
    have c3 := c2.mv hA2
    have o3 := hV3.o
    have d32 := hV3.a 32 0 12 (by decide) (by decide) rfl rfl
    have e32 : A2 32 ns = nI t1 := (c3.2.2 32 (by decide) (by decide)).trans (va_up_eq _ _ _)
    have ht1' : t1 < n2 := Nat.lt_of_lt_of_le ht1 hx2.1
    (repeat (refine zS_one rfl ?_; simp (disch := (first | decide | assumption | omega)) only [i_push, i_null, i_ild, i_ald, i_ist, i_ast, i_inc, i_bin, i_div, i_un, i_dup, i_pop, i_dup2, i_if, i_icmp, i_nul, i_nnl, i_goto, i_getf, i_putf, i_gets, i_nald, i_nast, i_aald, i_aast, i_alen, i_new, i_newa, i_newq, i_math, i_oini, i_iret, i_zret, i_aret, i_vret, z_fit, List.getElem?_cons_zero, List.getElem?_cons_succ, List.set_cons_zero, List.set_cons_succ, Nat.reduceAdd, Nat.reduceLT, Nat.reduceLeDiff, Nat.reduceEqDiff, Nat.zero_lt_succ, Value.category, true_and, or_true, true_or, and_true, false_implies, true_implies, not_false_eq_true, not_true_eq_false, List.map_cons, List.map_nil, List.sum_cons, List.sum_nil, va_up_eq, bx_uu, va_up_lit, List.length_cons, List.length_nil, List.drop_succ_cons, List.drop_zero, Option.toList_some, Option.toList_none, List.cons_append, List.nil_append, o3, d32, w3, w4, e32]))
    (try refine zS_one rfl ?_)
    refine r_callV (c_Mtwo sc d hV3 (by omega) (k := 4) (Or.inl rfl) ht1' ht2) rfl rfl rfl rfl hV3.f (Nat.le_refl _) (Nat.le_refl _) ?_
    rintro r h4 ⟨t3, n3, den3, S3, A3, rfl, ht3, ed3, hV4, hx3, hS3, hA3, hf3⟩
    have m3 : n3 ≤ n2 + 1 := hx3.2.1
    have b31 := hV4.a 31 0 12 (by decide) (by decide) rfl rfl
    have hV5 : MW (va_up h4.1 31 (.inl (0, 12, .inl (upd (A3 31) ns (nI t3)))), h4.2) S3 (pt A3 31 ns (nI t3)) n3 den3 := hV4.put 31 _ (by decide) (by decide) rfl rfl
    have c4 := (c3.mv hA3).put 31 (nI t3) (by decide)
    have hX3 : exM n den n3 den3 3 := ((hx1.tr hx2).tr hx3)
    have hF3 := (((hF1.tr hf1).tr (frN.put (by decide) (by decide))).tr hf2).tr hf3
    have hSS : ∀ q, q ≠ 0 → S3 q = va_up S 3 (nI (ns + 1)) q := fun q hq => by rw [hS3 q hq, hS2 q hq, hS1 q hq]
    have hS123 : S3 1 = S 1 ∧ S3 2 = S 2 ∧ S3 3 = nI (ns + 1) := ⟨(hSS 1 (by decide)).trans (va_up_lit _ _ _ _ (by decide)), (hSS 2 (by decide)).trans (va_up_lit _ _ _ _ (by decide)), (hSS 3 (by decide)).trans (va_up_eq _ _ _)⟩
    have dy3 : den3 t1 = tN p := by rw [hx3.2.2 t1 ht1', hx2.2.2 t1 ht1, ed1]
    have dH : den3 t3 = bgH p prol := by
      rw [ed3, hx2.2.2 t1 ht1, ed1, ed2]
      rfl
    have ht13 : t1 < n3 := Nat.lt_of_lt_of_le ht1' hx3.1
    rcases hp with rfl | rfl
    · have := tail _ _ _ n3 den3 t3 t1 (some (.int (nI t2))) none hV5 ⟨hX3.1, by have := hX3.2.1; omega, hX3.2.2⟩ hS123 c4 ht3 (by rw [dH]; rfl) ht13 (by rw [dy3]; rfl) (hF3.tr (frN.put (by decide) (by decide)))
      (iterate 4 (refine zS_one rfl ?_; simp (disch := (first | decide | assumption | omega)) only [i_push, i_null, i_ild, i_ald, i_ist, i_ast, i_inc, i_bin, i_div, i_un, i_dup, i_pop, i_dup2, i_if, i_icmp, i_nul, i_nnl, i_goto, i_getf, i_putf, i_gets, i_nald, i_nast, i_aald, i_aast, i_alen, i_new, i_newa, i_newq, i_math, i_oini, i_iret, i_zret, i_aret, i_vret, z_fit, List.getElem?_cons_zero, List.getElem?_cons_succ, List.set_cons_zero, List.set_cons_succ, Nat.reduceAdd, Nat.reduceLT, Nat.reduceLeDiff, Nat.reduceEqDiff, Nat.zero_lt_succ, Value.category, true_and, or_true, true_or, and_true, false_implies, true_implies, not_false_eq_true, not_true_eq_false, List.map_cons, List.map_nil, List.sum_cons, List.sum_nil, va_up_eq, bx_uu, va_up_lit, List.length_cons, List.length_nil, List.drop_succ_cons, List.drop_zero, Option.toList_some, Option.toList_none, List.cons_append, List.nil_append, b31, w3, w4, q01]))
      exact this
    · -- the responder's key
      have key : ∃ kk, kk ≤ 20 ∧ nI kk = (if i = 0 then own else oth') := by
        by_cases z : i = 0
        · rw [if_pos z]; obtain ⟨j, hj, e⟩ := ho; exact ⟨j, hj, e.symm⟩
        · rw [if_neg z]; obtain ⟨j, hj, e⟩ := ht; exact ⟨j, hj, e.symm⟩
      obtain ⟨kk, hkk, ekk⟩ := key
      have aft2 : zS (zMt zTab sc (d + 2), (0, 0), sc) k_Mo_start P (172, [some (.ref 15), some (.int 1), some (.int i), some (.int own), some (.int oth), some (.int prol), some (.int (nI ns)), some (.int (nI t2)), none], [.int (nI kk), .ref 15], (va_up h4.1 31 (.inl (0, 12, .inl (upd (A3 31) ns (nI t3)))), h4.2), 0, 0) := by
        (repeat (refine zS_one rfl ?_; simp (disch := (first | decide | assumption | omega)) only [i_push, i_null, i_ild, i_ald, i_ist, i_ast, i_inc, i_bin, i_div, i_un, i_dup, i_pop, i_dup2, i_if, i_icmp, i_nul, i_nnl, i_goto, i_getf, i_putf, i_gets, i_nald, i_nast, i_aald, i_aast, i_alen, i_new, i_newa, i_newq, i_math, i_oini, i_iret, i_zret, i_aret, i_vret, z_fit, List.getElem?_cons_zero, List.getElem?_cons_succ, List.set_cons_zero, List.set_cons_succ, Nat.reduceAdd, Nat.reduceLT, Nat.reduceLeDiff, Nat.reduceEqDiff, Nat.zero_lt_succ, Value.category, true_and, or_true, true_or, and_true, false_implies, true_implies, not_false_eq_true, not_true_eq_false, List.map_cons, List.map_nil, List.sum_cons, List.sum_nil, va_up_eq, bx_uu, va_up_lit, List.length_cons, List.length_nil, List.drop_succ_cons, List.drop_zero, Option.toList_some, Option.toList_none, List.cons_append, List.nil_append]))
        (try refine zS_one rfl ?_)
        refine r_callV (c_Mpub sc d hV5 (by omega) hkk) rfl rfl rfl rfl hV5.f (Nat.le_refl _) (Nat.le_refl _) ?_
        rintro r h6 ⟨t4, n4, den4, S4, A4, rfl, ht4, ed4, hV6, hx4, hS4, hA4, hf4⟩
        have m4 : n4 ≤ n3 + 1 := hx4.2.1
        have c5 := c4.mv hA4
        have o6 := hV6.o
        have d31 := hV6.a 31 0 12 (by decide) (by decide) rfl rfl
        have e31 : A4 31 ns = nI t3 := (c5.2.2 31 (by decide) (by decide)).trans (va_up_eq _ _ _)
        have ht34 : t3 < n4 := Nat.lt_of_lt_of_le ht3 hx4.1
        (repeat (refine zS_one rfl ?_; simp (disch := (first | decide | assumption | omega)) only [i_push, i_null, i_ild, i_ald, i_ist, i_ast, i_inc, i_bin, i_div, i_un, i_dup, i_pop, i_dup2, i_if, i_icmp, i_nul, i_nnl, i_goto, i_getf, i_putf, i_gets, i_nald, i_nast, i_aald, i_aast, i_alen, i_new, i_newa, i_newq, i_math, i_oini, i_iret, i_zret, i_aret, i_vret, z_fit, List.getElem?_cons_zero, List.getElem?_cons_succ, List.set_cons_zero, List.set_cons_succ, Nat.reduceAdd, Nat.reduceLT, Nat.reduceLeDiff, Nat.reduceEqDiff, Nat.zero_lt_succ, Value.category, true_and, or_true, true_or, and_true, false_implies, true_implies, not_false_eq_true, not_true_eq_false, List.map_cons, List.map_nil, List.sum_cons, List.sum_nil, va_up_eq, bx_uu, va_up_lit, List.length_cons, List.length_nil, List.drop_succ_cons, List.drop_zero, Option.toList_some, Option.toList_none, List.cons_append, List.nil_append, o6, d31, w3, w4, e31]))
        (try refine zS_one rfl ?_)
        refine r_callV (c_Mtwo sc d hV6 (by omega) (k := 4) (Or.inl rfl) ht34 ht4) rfl rfl rfl rfl hV6.f (Nat.le_refl _) (Nat.le_refl _) ?_
        rintro r h7 ⟨t5, n5, den5, S5, A5, rfl, ht5, ed5, hV7, hx5, hS5, hA5, hf5⟩
        have b31' := hV7.a 31 0 12 (by decide) (by decide) rfl rfl
        have hV8 : MW (va_up h7.1 31 (.inl (0, 12, .inl (upd (A5 31) ns (nI t5)))), h7.2) S5 (pt A5 31 ns (nI t5)) n5 den5 := hV7.put 31 _ (by decide) (by decide) rfl rfl
        have c6 := (c5.mv hA5).put 31 (nI t5) (by decide)
        rw [bx_uu] at c6
        have hX5 : exM n den n5 den5 5 := (hX3.tr hx4).tr hx5
        have := tail _ _ _ n5 den5 t5 t1 (some (.int (nI t2))) (some (.int (nI t4))) hV8 hX5 ⟨(hS5 1 (by decide)).trans ((hS4 1 (by decide)).trans hS123.1), (hS5 2 (by decide)).trans ((hS4 2 (by decide)).trans hS123.2.1), (hS5 3 (by decide)).trans ((hS4 3 (by decide)).trans hS123.2.2)⟩ c6 ht5 (by
          rw [ed5, ed4, hx4.2.2 t3 ht3, dH, ekk]
          rfl) (Nat.lt_of_lt_of_le (Nat.lt_of_lt_of_le ht13 hx4.1) hx5.1) (by
          rw [hx5.2.2 t1 (Nat.lt_of_lt_of_le ht13 hx4.1), hx4.2.2 t1 ht13, dy3]
          rfl) ((((hF3.tr (frN.put (by decide) (by decide))).tr hf4).tr hf5).tr (frN.put (by decide) (by decide)))
        (iterate 1 (refine zS_one rfl ?_; simp (disch := (first | decide | assumption | omega)) only [i_push, i_null, i_ild, i_ald, i_ist, i_ast, i_inc, i_bin, i_div, i_un, i_dup, i_pop, i_dup2, i_if, i_icmp, i_nul, i_nnl, i_goto, i_getf, i_putf, i_gets, i_nald, i_nast, i_aald, i_aast, i_alen, i_new, i_newa, i_newq, i_math, i_oini, i_iret, i_zret, i_aret, i_vret, z_fit, List.getElem?_cons_zero, List.getElem?_cons_succ, List.set_cons_zero, List.set_cons_succ, Nat.reduceAdd, Nat.reduceLT, Nat.reduceLeDiff, Nat.reduceEqDiff, Nat.zero_lt_succ, Value.category, true_and, or_true, true_or, and_true, false_implies, true_implies, not_false_eq_true, not_true_eq_false, List.map_cons, List.map_nil, List.sum_cons, List.sum_nil, va_up_eq, bx_uu, va_up_lit, List.length_cons, List.length_nil, List.drop_succ_cons, List.drop_zero, Option.toList_some, Option.toList_none, List.cons_append, List.nil_append, b31', w3, w4]))
        exact this
      rcases hi with rfl | rfl
      · rw [if_pos rfl] at ekk
        rw [ekk] at aft2
        (iterate 8 (refine zS_one rfl ?_; simp (disch := (first | decide | assumption | omega)) only [i_push, i_null, i_ild, i_ald, i_ist, i_ast, i_inc, i_bin, i_div, i_un, i_dup, i_pop, i_dup2, i_if, i_icmp, i_nul, i_nnl, i_goto, i_getf, i_putf, i_gets, i_nald, i_nast, i_aald, i_aast, i_alen, i_new, i_newa, i_newq, i_math, i_oini, i_iret, i_zret, i_aret, i_vret, z_fit, List.getElem?_cons_zero, List.getElem?_cons_succ, List.set_cons_zero, List.set_cons_succ, Nat.reduceAdd, Nat.reduceLT, Nat.reduceLeDiff, Nat.reduceEqDiff, Nat.zero_lt_succ, Value.category, true_and, or_true, true_or, and_true, false_implies, true_implies, not_false_eq_true, not_true_eq_false, List.map_cons, List.map_nil, List.sum_cons, List.sum_nil, va_up_eq, bx_uu, va_up_lit, List.length_cons, List.length_nil, List.drop_succ_cons, List.drop_zero, Option.toList_some, Option.toList_none, List.cons_append, List.nil_append, b31, w3, w4]))
        exact aft2
      · rw [if_neg q10] at ekk
        have e4 : oth' = oth := by rw [← hoth]; exact if_pos ⟨rfl, q10⟩
        rw [ekk, e4] at aft2
        (iterate 9 (refine zS_one rfl ?_; simp (disch := (first | decide | assumption | omega)) only [i_push, i_null, i_ild, i_ald, i_ist, i_ast, i_inc, i_bin, i_div, i_un, i_dup, i_pop, i_dup2, i_if, i_icmp, i_nul, i_nnl, i_goto, i_getf, i_putf, i_gets, i_nald, i_nast, i_aald, i_aast, i_alen, i_new, i_newa, i_newq, i_math, i_oini, i_iret, i_zret, i_aret, i_vret, z_fit, List.getElem?_cons_zero, List.getElem?_cons_succ, List.set_cons_zero, List.set_cons_succ, Nat.reduceAdd, Nat.reduceLT, Nat.reduceLeDiff, Nat.reduceEqDiff, Nat.zero_lt_succ, Value.category, true_and, or_true, true_or, and_true, false_implies, true_implies, not_false_eq_true, not_true_eq_false, List.map_cons, List.map_nil, List.sum_cons, List.sum_nil, va_up_eq, bx_uu, va_up_lit, List.length_cons, List.length_nil, List.drop_succ_cons, List.drop_zero, Option.toList_some, Option.toList_none, List.cons_append, List.nil_append, b31, w3, w4, q10]))
        exact aft2
  rw [e3] at aft
  by_cases hii : i = 0
  · have e4 : oth' = 0 := by rw [← hoth]; exact if_neg (fun z => z.2 hii)
    rw [e4] at aft
    subst hii
    (iterate 34 (refine zS_one rfl ?_; simp (disch := (first | decide | assumption | omega)) only [i_push, i_null, i_ild, i_ald, i_ist, i_ast, i_inc, i_bin, i_div, i_un, i_dup, i_pop, i_dup2, i_if, i_icmp, i_nul, i_nnl, i_goto, i_getf, i_putf, i_gets, i_nald, i_nast, i_aald, i_aast, i_alen, i_new, i_newa, i_newq, i_math, i_oini, i_iret, i_zret, i_aret, i_vret, z_fit, List.getElem?_cons_zero, List.getElem?_cons_succ, List.set_cons_zero, List.set_cons_succ, Nat.reduceAdd, Nat.reduceLT, Nat.reduceLeDiff, Nat.reduceEqDiff, Nat.zero_lt_succ, Value.category, true_and, or_true, true_or, and_true, false_implies, true_implies, not_false_eq_true, not_true_eq_false, List.map_cons, List.map_nil, List.sum_cons, List.sum_nil, va_up_eq, bx_uu, va_up_lit, List.length_cons, List.length_nil, List.drop_succ_cons, List.drop_zero, Option.toList_some, Option.toList_none, List.cons_append, List.nil_append, o, a25, a26, a27, w, w3, w4, hi1, nI_1']))
    exact aft
  · by_cases hp1 : p = 1
    · have e4 : oth' = oth := by rw [← hoth]; exact if_pos ⟨hp1, hii⟩
      rw [e4] at aft
      subst hp1
      (iterate 38 (refine zS_one rfl ?_; simp (disch := (first | decide | assumption | omega)) only [i_push, i_null, i_ild, i_ald, i_ist, i_ast, i_inc, i_bin, i_div, i_un, i_dup, i_pop, i_dup2, i_if, i_icmp, i_nul, i_nnl, i_goto, i_getf, i_putf, i_gets, i_nald, i_nast, i_aald, i_aast, i_alen, i_new, i_newa, i_newq, i_math, i_oini, i_iret, i_zret, i_aret, i_vret, z_fit, List.getElem?_cons_zero, List.getElem?_cons_succ, List.set_cons_zero, List.set_cons_succ, Nat.reduceAdd, Nat.reduceLT, Nat.reduceLeDiff, Nat.reduceEqDiff, Nat.zero_lt_succ, Value.category, true_and, or_true, true_or, and_true, false_implies, true_implies, not_false_eq_true, not_true_eq_false, List.map_cons, List.map_nil, List.sum_cons, List.sum_nil, va_up_eq, bx_uu, va_up_lit, List.length_cons, List.length_nil, List.drop_succ_cons, List.drop_zero, Option.toList_some, Option.toList_none, List.cons_append, List.nil_append, o, a25, a26, a27, w, w3, w4, hi1, hii, nI_1']))
      exact aft
    · have e4 : oth' = 0 := by rw [← hoth]; exact if_neg (fun z => hp1 z.1)
      rw [e4] at aft
      (iterate 37 (refine zS_one rfl ?_; simp (disch := (first | decide | assumption | omega)) only [i_push, i_null, i_ild, i_ald, i_ist, i_ast, i_inc, i_bin, i_div, i_un, i_dup, i_pop, i_dup2, i_if, i_icmp, i_nul, i_nnl, i_goto, i_getf, i_putf, i_gets, i_nald, i_nast, i_aald, i_aast, i_alen, i_new, i_newa, i_newq, i_math, i_oini, i_iret, i_zret, i_aret, i_vret, z_fit, List.getElem?_cons_zero, List.getElem?_cons_succ, List.set_cons_zero, List.set_cons_succ, Nat.reduceAdd, Nat.reduceLT, Nat.reduceLeDiff, Nat.reduceEqDiff, Nat.zero_lt_succ, Value.category, true_and, or_true, true_or, and_true, false_implies, true_implies, not_false_eq_true, not_true_eq_false, List.map_cons, List.map_nil, List.sum_cons, List.sum_nil, va_up_eq, bx_uu, va_up_lit, List.length_cons, List.length_nil, List.drop_succ_cons, List.drop_zero, Option.toList_some, Option.toList_none, List.cons_append, List.nil_append, o, a25, a26, a27, w, w3, w4, hi1, hii, hp1, nI_1']))
      exact aft
theorem pp01 {p : Int32} (h1 : ¬ p < 0) (h2 : ¬ 1 < p) : p = 0 ∨ p = 1 := by
  obtain ⟨j, hj, rfl⟩ := nI_of h1
  rcases (show j = 0 ∨ j = 1 ∨ 2 ≤ j by omega) with rfl | rfl | h
  · exact Or.inl rfl
  · exact Or.inr rfl
  · exact absurd ((nI_ltI (a := 1) (b := j) (by decide) hj).mpr (by omega)) h2
set_option maxHeartbeats 8000000 in
theorem c_Mstart (sc : Nat × (Nat → Int32)) (d : Nat) (hM : MO h0 ns n made den G m ps V S A) (hn : n + 5 ≤ 1200) {p i own oth prol : Int32} (hi : i = 0 ∨ i = 1) : zMt zTab sc (d + 3) 96 [.ref 15, .int p, .int i, .int own, .int oth, .int prol] h0 0 0 (stM h0 ns n made den G m ps V p i own oth prol) := by
  have q10 : ¬ (1 : Int32) = 0 := by decide
  refine zM_gen fun P hP => ?_
  refine zM_start (r := r_Mo_start) (cd := k_Mo_start) (L0 := [some (.ref 15), some (.int p), some (.int i), some (.int own), some (.int oth), some (.int prol), none, none, none]) rfl rfl rfl rfl rfl ?_
  have bad : ¬ stOK p i own oth → P (some (.int (-1))) h0 := fun z => hP _ _ (Or.inl ⟨rfl, rfl, z⟩)
  have core := fun z : stOK p i own oth => Mstart_core sc d hM hn hi z hP
  (repeat (refine zS_one rfl ?_; simp (disch := (first | decide | assumption | omega)) only [i_push, i_null, i_ild, i_ald, i_ist, i_ast, i_inc, i_bin, i_div, i_un, i_dup, i_pop, i_dup2, i_if, i_icmp, i_nul, i_nnl, i_goto, i_getf, i_putf, i_gets, i_nald, i_nast, i_aald, i_aast, i_alen, i_new, i_newa, i_newq, i_math, i_oini, i_iret, i_zret, i_aret, i_vret, z_fit, List.getElem?_cons_zero, List.getElem?_cons_succ, List.set_cons_zero, List.set_cons_succ, Nat.reduceAdd, Nat.reduceLT, Nat.reduceLeDiff, Nat.reduceEqDiff, Nat.zero_lt_succ, Value.category, true_and, or_true, true_or, and_true, false_implies, true_implies, not_false_eq_true, not_true_eq_false, List.map_cons, List.map_nil, List.sum_cons, List.sum_nil, va_up_eq, bx_uu, va_up_lit, List.length_cons, List.length_nil, List.drop_succ_cons, List.drop_zero, Option.toList_some, Option.toList_none, List.cons_append, List.nil_append]))
  (try refine zS_one rfl ?_)
  refine r_callS (c_within sc (d + 1) _ p 0 1) rfl rfl rfl rfl (Nat.le_refl _) (Nat.le_refl _) ?_
  rintro r h' ⟨rfl, ⟨rfl, g1, g2⟩ | ⟨rfl, g1⟩⟩
  rotate_left
  · (repeat (refine zS_one rfl ?_; simp (disch := (first | decide | assumption | omega)) only [i_push, i_null, i_ild, i_ald, i_ist, i_ast, i_inc, i_bin, i_div, i_un, i_dup, i_pop, i_dup2, i_if, i_icmp, i_nul, i_nnl, i_goto, i_getf, i_putf, i_gets, i_nald, i_nast, i_aald, i_aast, i_alen, i_new, i_newa, i_newq, i_math, i_oini, i_iret, i_zret, i_aret, i_vret, z_fit, List.getElem?_cons_zero, List.getElem?_cons_succ, List.set_cons_zero, List.set_cons_succ, Nat.reduceAdd, Nat.reduceLT, Nat.reduceLeDiff, Nat.reduceEqDiff, Nat.zero_lt_succ, Value.category, true_and, or_true, true_or, and_true, false_implies, true_implies, not_false_eq_true, not_true_eq_false, List.map_cons, List.map_nil, List.sum_cons, List.sum_nil, va_up_eq, bx_uu, va_up_lit, List.length_cons, List.length_nil, List.drop_succ_cons, List.drop_zero, Option.toList_some, Option.toList_none, List.cons_append, List.nil_append]))
    refine bad (fun z => ?_)
    rcases z.1 with rfl | rfl <;> rcases g1 with g | g <;> exact absurd g (by decide)
  (repeat (refine zS_one rfl ?_; simp (disch := (first | decide | assumption | omega)) only [i_push, i_null, i_ild, i_ald, i_ist, i_ast, i_inc, i_bin, i_div, i_un, i_dup, i_pop, i_dup2, i_if, i_icmp, i_nul, i_nnl, i_goto, i_getf, i_putf, i_gets, i_nald, i_nast, i_aald, i_aast, i_alen, i_new, i_newa, i_newq, i_math, i_oini, i_iret, i_zret, i_aret, i_vret, z_fit, List.getElem?_cons_zero, List.getElem?_cons_succ, List.set_cons_zero, List.set_cons_succ, Nat.reduceAdd, Nat.reduceLT, Nat.reduceLeDiff, Nat.reduceEqDiff, Nat.zero_lt_succ, Value.category, true_and, or_true, true_or, and_true, false_implies, true_implies, not_false_eq_true, not_true_eq_false, List.map_cons, List.map_nil, List.sum_cons, List.sum_nil, va_up_eq, bx_uu, va_up_lit, List.length_cons, List.length_nil, List.drop_succ_cons, List.drop_zero, Option.toList_some, Option.toList_none, List.cons_append, List.nil_append, q10]))
  (try refine zS_one rfl ?_)
  refine r_callS (c_within sc (d + 1) _ own 1 8) rfl rfl rfl rfl (Nat.le_refl _) (Nat.le_refl _) ?_
  rintro r h' ⟨rfl, ⟨rfl, k1, k2⟩ | ⟨rfl, k1⟩⟩
  rotate_left
  · (repeat (refine zS_one rfl ?_; simp (disch := (first | decide | assumption | omega)) only [i_push, i_null, i_ild, i_ald, i_ist, i_ast, i_inc, i_bin, i_div, i_un, i_dup, i_pop, i_dup2, i_if, i_icmp, i_nul, i_nnl, i_goto, i_getf, i_putf, i_gets, i_nald, i_nast, i_aald, i_aast, i_alen, i_new, i_newa, i_newq, i_math, i_oini, i_iret, i_zret, i_aret, i_vret, z_fit, List.getElem?_cons_zero, List.getElem?_cons_succ, List.set_cons_zero, List.set_cons_succ, Nat.reduceAdd, Nat.reduceLT, Nat.reduceLeDiff, Nat.reduceEqDiff, Nat.zero_lt_succ, Value.category, true_and, or_true, true_or, and_true, false_implies, true_implies, not_false_eq_true, not_true_eq_false, List.map_cons, List.map_nil, List.sum_cons, List.sum_nil, va_up_eq, bx_uu, va_up_lit, List.length_cons, List.length_nil, List.drop_succ_cons, List.drop_zero, Option.toList_some, Option.toList_none, List.cons_append, List.nil_append]))
    exact bad (fun z => k1.elim z.2.1.1 z.2.1.2)
  by_cases hii : i = 0
  · have := core ⟨pp01 g1 g2, ⟨k1, k2⟩, fun z => absurd hii z.2⟩
    (iterate 3 (refine zS_one rfl ?_; simp (disch := (first | decide | assumption | omega)) only [i_push, i_null, i_ild, i_ald, i_ist, i_ast, i_inc, i_bin, i_div, i_un, i_dup, i_pop, i_dup2, i_if, i_icmp, i_nul, i_nnl, i_goto, i_getf, i_putf, i_gets, i_nald, i_nast, i_aald, i_aast, i_alen, i_new, i_newa, i_newq, i_math, i_oini, i_iret, i_zret, i_aret, i_vret, z_fit, List.getElem?_cons_zero, List.getElem?_cons_succ, List.set_cons_zero, List.set_cons_succ, Nat.reduceAdd, Nat.reduceLT, Nat.reduceLeDiff, Nat.reduceEqDiff, Nat.zero_lt_succ, Value.category, true_and, or_true, true_or, and_true, false_implies, true_implies, not_false_eq_true, not_true_eq_false, List.map_cons, List.map_nil, List.sum_cons, List.sum_nil, va_up_eq, bx_uu, va_up_lit, List.length_cons, List.length_nil, List.drop_succ_cons, List.drop_zero, Option.toList_some, Option.toList_none, List.cons_append, List.nil_append, q10, hii]))
    rw [hii] at this
    exact this
  · by_cases hp1 : p = 1
    · (repeat (refine zS_one rfl ?_; simp (disch := (first | decide | assumption | omega)) only [i_push, i_null, i_ild, i_ald, i_ist, i_ast, i_inc, i_bin, i_div, i_un, i_dup, i_pop, i_dup2, i_if, i_icmp, i_nul, i_nnl, i_goto, i_getf, i_putf, i_gets, i_nald, i_nast, i_aald, i_aast, i_alen, i_new, i_newa, i_newq, i_math, i_oini, i_iret, i_zret, i_aret, i_vret, z_fit, List.getElem?_cons_zero, List.getElem?_cons_succ, List.set_cons_zero, List.set_cons_succ, Nat.reduceAdd, Nat.reduceLT, Nat.reduceLeDiff, Nat.reduceEqDiff, Nat.zero_lt_succ, Value.category, true_and, or_true, true_or, and_true, false_implies, true_implies, not_false_eq_true, not_true_eq_false, List.map_cons, List.map_nil, List.sum_cons, List.sum_nil, va_up_eq, bx_uu, va_up_lit, List.length_cons, List.length_nil, List.drop_succ_cons, List.drop_zero, Option.toList_some, Option.toList_none, List.cons_append, List.nil_append, q10, hii, hp1]))
      (try refine zS_one rfl ?_)
      refine r_callS (c_within sc (d + 1) _ oth 1 8) rfl rfl rfl rfl (Nat.le_refl _) (Nat.le_refl _) ?_
      rintro r h' ⟨rfl, ⟨rfl, j1, j2⟩ | ⟨rfl, j1⟩⟩
      · have := core ⟨pp01 g1 g2, ⟨k1, k2⟩, fun z => ⟨j1, j2⟩⟩
        (iterate 1 (refine zS_one rfl ?_; simp (disch := (first | decide | assumption | omega)) only [i_push, i_null, i_ild, i_ald, i_ist, i_ast, i_inc, i_bin, i_div, i_un, i_dup, i_pop, i_dup2, i_if, i_icmp, i_nul, i_nnl, i_goto, i_getf, i_putf, i_gets, i_nald, i_nast, i_aald, i_aast, i_alen, i_new, i_newa, i_newq, i_math, i_oini, i_iret, i_zret, i_aret, i_vret, z_fit, List.getElem?_cons_zero, List.getElem?_cons_succ, List.set_cons_zero, List.set_cons_succ, Nat.reduceAdd, Nat.reduceLT, Nat.reduceLeDiff, Nat.reduceEqDiff, Nat.zero_lt_succ, Value.category, true_and, or_true, true_or, and_true, false_implies, true_implies, not_false_eq_true, not_true_eq_false, List.map_cons, List.map_nil, List.sum_cons, List.sum_nil, va_up_eq, bx_uu, va_up_lit, List.length_cons, List.length_nil, List.drop_succ_cons, List.drop_zero, Option.toList_some, Option.toList_none, List.cons_append, List.nil_append, q10]))
        rw [hp1] at this
        exact this
      · (repeat (refine zS_one rfl ?_; simp (disch := (first | decide | assumption | omega)) only [i_push, i_null, i_ild, i_ald, i_ist, i_ast, i_inc, i_bin, i_div, i_un, i_dup, i_pop, i_dup2, i_if, i_icmp, i_nul, i_nnl, i_goto, i_getf, i_putf, i_gets, i_nald, i_nast, i_aald, i_aast, i_alen, i_new, i_newa, i_newq, i_math, i_oini, i_iret, i_zret, i_aret, i_vret, z_fit, List.getElem?_cons_zero, List.getElem?_cons_succ, List.set_cons_zero, List.set_cons_succ, Nat.reduceAdd, Nat.reduceLT, Nat.reduceLeDiff, Nat.reduceEqDiff, Nat.zero_lt_succ, Value.category, true_and, or_true, true_or, and_true, false_implies, true_implies, not_false_eq_true, not_true_eq_false, List.map_cons, List.map_nil, List.sum_cons, List.sum_nil, va_up_eq, bx_uu, va_up_lit, List.length_cons, List.length_nil, List.drop_succ_cons, List.drop_zero, Option.toList_some, Option.toList_none, List.cons_append, List.nil_append]))
        exact bad (fun z => j1.elim (z.2.2 ⟨hp1, hii⟩).1 (z.2.2 ⟨hp1, hii⟩).2)
    · have := core ⟨pp01 g1 g2, ⟨k1, k2⟩, fun z => absurd z.1 hp1⟩
      (iterate 6 (refine zS_one rfl ?_; simp (disch := (first | decide | assumption | omega)) only [i_push, i_null, i_ild, i_ald, i_ist, i_ast, i_inc, i_bin, i_div, i_un, i_dup, i_pop, i_dup2, i_if, i_icmp, i_nul, i_nnl, i_goto, i_getf, i_putf, i_gets, i_nald, i_nast, i_aald, i_aast, i_alen, i_new, i_newa, i_newq, i_math, i_oini, i_iret, i_zret, i_aret, i_vret, z_fit, List.getElem?_cons_zero, List.getElem?_cons_succ, List.set_cons_zero, List.set_cons_succ, Nat.reduceAdd, Nat.reduceLT, Nat.reduceLeDiff, Nat.reduceEqDiff, Nat.zero_lt_succ, Value.category, true_and, or_true, true_or, and_true, false_implies, true_implies, not_false_eq_true, not_true_eq_false, List.map_cons, List.map_nil, List.sum_cons, List.sum_nil, va_up_eq, bx_uu, va_up_lit, List.length_cons, List.length_nil, List.drop_succ_cons, List.drop_zero, Option.toList_some, Option.toList_none, List.cons_append, List.nil_append, q10, hii, hp1]))
      exact this
end MOU
