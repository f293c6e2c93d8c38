/-! Terms as lists of ints: nd is one to one. -/
abbrev zT : Type := List Int
def nd (k a b : Int) (t u w : zT) : zT := k :: a :: b :: (t.length : Int) :: (u.length : Int) :: (t ++ (u ++ w))
theorem nd_inj {k a b k' a' b' : Int} {t u w t' u' w' : zT} (h : nd k a b t u w = nd k' a' b' t' u' w') : k = k' ∧ a = a' ∧ b = b' ∧ t = t' ∧ u = u' ∧ w = w' := by
  unfold nd at h
  injection h with h1 h
  injection h with h2 h
  injection h with h3 h
  injection h with h4 h
  injection h with h5 h
  have e4 : t.length = t'.length := by exact_mod_cast h4
  have e5 : u.length = u'.length := by exact_mod_cast h5
  obtain ⟨e6, h⟩ := List.append_inj h e4
  obtain ⟨e7, e8⟩ := List.append_inj h e5
  exact ⟨h1, h2, h3, e6, e7, e8⟩
theorem nd_ne {k a b : Int} {t u w : zT} : nd k a b t u w ≠ [] := List.cons_ne_nil _ _
theorem i32_inj {x y : Int32} (h : x.toInt = y.toInt) : x = y := Int32.toInt_inj.mp h
theorem nI_inj {a b : Nat} (ha : a < 2 ^ 31) (hb : b < 2 ^ 31) (h : nI a = nI b) : a = b := (nI_eq ha hb).mp h
/-- a row of the class's table: what it stands for; its children lie below m -/
def rw_C (k a b c d : Int32) (den : Nat → zT) (m : Nat) (τ : zT) : Prop :=
  (k = 1 ∧ b = 0 ∧ c = 0 ∧ d = 0 ∧ τ = nd 1 a.toInt 0 [] [] []) ∨
  (k = 2 ∧ (∃ p, p ≤ 20 ∧ a = nI p) ∧ b = 0 ∧ c = 0 ∧ d = 0 ∧ τ = nd 2 a.toInt 0 [] [] []) ∨
  (k = 3 ∧ (∃ p, p ≤ 20 ∧ a = nI p) ∧ (∃ p, p ≤ 20 ∧ b = nI p) ∧ c = 0 ∧ d = 0 ∧ τ = nd 3 a.toInt b.toInt [] [] []) ∨
  ((k = 4 ∨ k = 5 ∨ k = 6) ∧ ∃ x y, 0 < x ∧ x < m ∧ 0 < y ∧ y < m ∧ a = nI x ∧ b = nI y ∧ c = 0 ∧ d = 0 ∧ τ = nd k.toInt 0 0 (den x) (den y) []) ∨
  (k = 7 ∧ ∃ x, 0 < x ∧ x < m ∧ a = nI x ∧ c = 0 ∧ d = 0 ∧ τ = nd 7 b.toInt 0 (den x) [] []) ∨
  (k = 8 ∧ ∃ x y z, 0 < x ∧ x < m ∧ 0 < y ∧ y < m ∧ 0 < z ∧ z < m ∧ a = nI x ∧ c = nI y ∧ d = nI z ∧ τ = nd 8 b.toInt 0 (den x) (den y) (den z))
theorem rw_C_mono {k a b c d : Int32} {den den' : Nat → zT} {m m' : Nat} {τ : zT} (h : rw_C k a b c d den m τ) (hm : m ≤ m') (hd : ∀ x, 0 < x → x < m → den' x = den x) : rw_C k a b c d den' m' τ := by
  rcases h with h | h | h | ⟨hk, x, y, hx, hxm, hy, hym, h⟩ | ⟨hk, x, hx, hxm, h⟩ | ⟨hk, x, y, z, hx, hxm, hy, hym, hz, hzm, h⟩
  · exact Or.inl h
  · exact Or.inr (Or.inl h)
  · exact Or.inr (Or.inr (Or.inl h))
  · refine Or.inr (Or.inr (Or.inr (Or.inl ⟨hk, x, y, hx, by omega, hy, by omega, ?_⟩)))
    rw [hd x hx hxm, hd y hy hym]
    exact h
  · refine Or.inr (Or.inr (Or.inr (Or.inr (Or.inl ⟨hk, x, hx, by omega, ?_⟩))))
    rw [hd x hx hxm]
    exact h
  · refine Or.inr (Or.inr (Or.inr (Or.inr (Or.inr ⟨hk, x, y, z, hx, by omega, hy, by omega, hz, by omega, ?_⟩))))
    rw [hd x hx hxm, hd y hy hym, hd z hz hzm]
    exact h
/-- the same fields: the same term -/
theorem rw_C_fun {k a b c d : Int32} {den : Nat → zT} {m m' : Nat} {τ τ' : zT} (hm : m ≤ 720) (hm' : m' ≤ 720) (h : rw_C k a b c d den m τ) (h' : rw_C k a b c d den m' τ') : τ = τ' := by
  rcases h with ⟨hk, h⟩ | ⟨hk, h⟩ | ⟨hk, h⟩ | ⟨hk, x, y, hx, hxm, hy, hym, h⟩ | ⟨hk, x, hx, hxm, h⟩ | ⟨hk, x, y, z, hx, hxm, hy, hym, hz, hzm, h⟩ <;>
  rcases h' with ⟨hk', h'⟩ | ⟨hk', h'⟩ | ⟨hk', h'⟩ | ⟨hk', x', y', hx', hxm', hy', hym', h'⟩ | ⟨hk', x', hx', hxm', h'⟩ | ⟨hk', x', y', z', hx', hxm', hy', hym', hz', hzm', h'⟩
  all_goals first
    | (exfalso; subst hk; revert hk'; decide)
    | (exfalso; subst hk'; revert hk; decide)
    | skip
  · rw [h.2.2.2, h'.2.2.2]
  · rw [h.2.2.2.2, h'.2.2.2.2]
  · rw [h.2.2.2.2, h'.2.2.2.2]
  · obtain ⟨h1, h2, -, -, h3⟩ := h
    obtain ⟨g1, g2, -, -, g3⟩ := h'
    rw [h3, g3, nI_inj (by omega) (by omega) (h1.symm.trans g1), nI_inj (by omega) (by omega) (h2.symm.trans g2)]
  · obtain ⟨h1, -, -, h3⟩ := h
    obtain ⟨g1, -, -, g3⟩ := h'
    rw [h3, g3, nI_inj (by omega) (by omega) (h1.symm.trans g1)]
  · obtain ⟨h1, h2, h4, h3⟩ := h
    obtain ⟨g1, g2, g4, g3⟩ := h'
    rw [h3, g3, nI_inj (by omega) (by omega) (h1.symm.trans g1), nI_inj (by omega) (by omega) (h2.symm.trans g2), nI_inj (by omega) (by omega) (h4.symm.trans g4)]
/-- the same term: the same fields -/
theorem rw_C_inj {k a b c d k' a' b' c' d' : Int32} {den : Nat → zT} {m m' n : Nat} {τ : zT} (hi : ∀ x y, 0 < x → x ≤ n → 0 < y → y ≤ n → den x = den y → x = y) (hm : m ≤ n + 1) (hm' : m' ≤ n + 1) (h : rw_C k a b c d den m τ) (h' : rw_C k' a' b' c' d' den m' τ) : k = k' ∧ a = a' ∧ b = b' ∧ c = c' ∧ d = d' := by
  rcases h with ⟨hk, h⟩ | ⟨hk, h⟩ | ⟨hk, h⟩ | ⟨hk, x, y, hx, hxm, hy, hym, h⟩ | ⟨hk, x, hx, hxm, h⟩ | ⟨hk, x, y, z, hx, hxm, hy, hym, hz, hzm, h⟩ <;>
  rcases h' with ⟨hk', h'⟩ | ⟨hk', h'⟩ | ⟨hk', h'⟩ | ⟨hk', x', y', hx', hxm', hy', hym', h'⟩ | ⟨hk', x', hx', hxm', h'⟩ | ⟨hk', x', y', z', hx', hxm', hy', hym', hz', hzm', h'⟩
  all_goals first
    | (exfalso; first | exact absurd (nd_inj (Eq.trans (Eq.symm h.2.2.2) h'.2.2.2)).1 (by decide) | exact absurd (nd_inj (Eq.trans (Eq.symm h.2.2.2) h'.2.2.2.2)).1 (by decide) | exact absurd (nd_inj (Eq.trans (Eq.symm h.2.2.2.2) h'.2.2.2)).1 (by decide) | exact absurd (nd_inj (Eq.trans (Eq.symm h.2.2.2.2) h'.2.2.2.2)).1 (by decide))
    | (exfalso; rcases hk with rfl | rfl | rfl <;> first | exact absurd (nd_inj (Eq.trans (Eq.symm h.2.2.2) h'.2.2.2)).1 (by decide) | exact absurd (nd_inj (Eq.trans (Eq.symm h.2.2.2) h'.2.2.2.2)).1 (by decide) | exact absurd (nd_inj (Eq.trans (Eq.symm h.2.2.2.2) h'.2.2.2)).1 (by decide) | exact absurd (nd_inj (Eq.trans (Eq.symm h.2.2.2.2) h'.2.2.2.2)).1 (by decide))
    | (exfalso; rcases hk' with rfl | rfl | rfl <;> first | exact absurd (nd_inj (Eq.trans (Eq.symm h.2.2.2) h'.2.2.2)).1 (by decide) | exact absurd (nd_inj (Eq.trans (Eq.symm h.2.2.2) h'.2.2.2.2)).1 (by decide) | exact absurd (nd_inj (Eq.trans (Eq.symm h.2.2.2.2) h'.2.2.2)).1 (by decide) | exact absurd (nd_inj (Eq.trans (Eq.symm h.2.2.2.2) h'.2.2.2.2)).1 (by decide))
    | skip
  · have e := nd_inj (h.2.2.2.symm.trans h'.2.2.2)
    exact ⟨by rw [hk, hk'], i32_inj e.2.1, by rw [h.1, h'.1], by rw [h.2.1, h'.2.1], by rw [h.2.2.1, h'.2.2.1]⟩
  · have e := nd_inj (h.2.2.2.2.symm.trans h'.2.2.2.2)
    exact ⟨by rw [hk, hk'], i32_inj e.2.1, by rw [h.2.1, h'.2.1], by rw [h.2.2.1, h'.2.2.1], by rw [h.2.2.2.1, h'.2.2.2.1]⟩
  · have e := nd_inj (h.2.2.2.2.symm.trans h'.2.2.2.2)
    exact ⟨by rw [hk, hk'], i32_inj e.2.1, i32_inj e.2.2.1, by rw [h.2.2.1, h'.2.2.1], by rw [h.2.2.2.1, h'.2.2.2.1]⟩
  · have e := nd_inj (h.2.2.2.2.symm.trans h'.2.2.2.2)
    have ex := hi x x' hx (by omega) hx' (by omega) e.2.2.2.1
    have ey := hi y y' hy (by omega) hy' (by omega) e.2.2.2.2.1
    exact ⟨i32_inj e.1, by rw [h.1, h'.1, ex], by rw [h.2.1, h'.2.1, ey], by rw [h.2.2.1, h'.2.2.1], by rw [h.2.2.2.1, h'.2.2.2.1]⟩
  · have e := nd_inj (h.2.2.2.symm.trans h'.2.2.2)
    have ex := hi x x' hx (by omega) hx' (by omega) e.2.2.2.1
    exact ⟨by rw [hk, hk'], by rw [h.1, h'.1, ex], i32_inj e.2.1, by rw [h.2.1, h'.2.1], by rw [h.2.2.1, h'.2.2.1]⟩
  · have e := nd_inj (h.2.2.2.symm.trans h'.2.2.2)
    have ex := hi x x' hx (by omega) hx' (by omega) e.2.2.2.1
    have ey := hi y y' hy (by omega) hy' (by omega) e.2.2.2.2.1
    have ez := hi z z' hz (by omega) hz' (by omega) e.2.2.2.2.2
    exact ⟨by rw [hk, hk'], by rw [h.1, h'.1, ex], i32_inj e.2.1, by rw [h.2.1, h'.2.1, ey], by rw [h.2.2.1, h'.2.2.1, ez]⟩
/-- the class's Terms: the object at place 1, its arrays at 2 .. 10; T 0 .. T 8 are kind, first, second, third, fourth, known, nextInBucket, newestInBucket, given -/
def tS (h : zH) (T : Nat → Nat → Int32) (n k : Nat) : Prop :=
  h.1 1 = .inr (4, [.ref 2, .ref 3, .ref 4, .ref 5, .ref 6, .ref 7, .ref 8, .ref 9, .ref 10, .int (nI n), .int (nI k)]) ∧
  h.1 2 = .inl (0, 720, .inl (T 0)) ∧ h.1 3 = .inl (0, 720, .inl (T 1)) ∧ h.1 4 = .inl (0, 720, .inl (T 2)) ∧ h.1 5 = .inl (0, 720, .inl (T 3)) ∧ h.1 6 = .inl (0, 720, .inl (T 4)) ∧
  h.1 7 = .inl (1, 720, .inl (T 5)) ∧ h.1 8 = .inl (0, 720, .inl (T 6)) ∧ h.1 9 = .inl (0, 128, .inl (T 7)) ∧ h.1 10 = .inl (1, 21, .inl (T 8))
/-- what judged asks -/
def jg (T : Nat → Nat → Int32) (t : Nat) : Prop :=
  (T 0 t = 3 → ¬ T 8 (T 1 t).toNatClampNeg = 0 ∨ ¬ T 8 (T 2 t).toNatClampNeg = 0) ∧
  ((T 0 t = 4 ∨ T 0 t = 5 ∨ T 0 t = 6) → ¬ T 5 (T 1 t).toNatClampNeg = 0 ∧ ¬ T 5 (T 2 t).toNatClampNeg = 0) ∧
  (T 0 t = 7 → ¬ T 5 (T 1 t).toNatClampNeg = 0)
theorem jg_oth {T : Nat → Nat → Int32} {t : Nat} (h3 : ¬ T 0 t = 3) (h4 : ¬ (T 0 t = 4 ∨ T 0 t = 5 ∨ T 0 t = 6)) (h7 : ¬ T 0 t = 7) : jg T t := ⟨fun z => absurd z h3, fun z => absurd z h4, fun z => absurd z h7⟩
theorem in720 {t : Nat} (h : t < 720) : vp_in (nI t) 720 := vp_in_nI h (by decide)
theorem cl720 {t : Nat} (h : t < 720) : (nI t).toNatClampNeg = t := nI_clamp (by omega)
def kv (T : Nat → Nat → Int32) (t : Nat) (v : Int32) : Prop := (v = 1 ∧ jg T t) ∨ (v = 0 ∧ ¬ jg T t)
def bkt (k a b c d : Int32) : Int32 := (((((k * 31 + a) * 31 + b) * 31 + c) * 31 + d) ^^^ ((((((k * 31 + a) * 31 + b) * 31 + c) * 31 + d).toUInt32 >>> ((7 : Int32).toUInt32 &&& Int32.toUInt32 31)).toInt32) ^^^ ((((((k * 31 + a) * 31 + b) * 31 + c) * 31 + d).toUInt32 >>> ((14 : Int32).toUInt32 &&& Int32.toUInt32 31)).toInt32)) &&& 127
theorem c_bucketOf (sc : Nat × (Nat → Int32)) (d : Nat) (h : zH) (k a b c e : Int32) : zMt zTab sc (d + 1) 55 [.int k, .int a, .int b, .int c, .int e] h 0 0 (fun r h' => r = some (.int (bkt k a b c e)) ∧ h' = h) := by
  refine zM_gen fun P hP => ?_
  refine zM_start (r := r_Te_bucketOf) (cd := k_Te_bucketOf) (L0 := [some (.int k), some (.int a), some (.int b), some (.int c), some (.int e), none]) rfl rfl rfl rfl rfl ?_
  (repeat (refine zS_one rfl ?_; simp (disch := (first | decide | assumption | omega)) only [i_push, i_null, i_ild, i_ald, i_ist, i_ast, i_inc, i_bin, i_div, i_un, i_dup, i_pop, i_dup2, i_if, i_icmp, i_nul, i_nnl, i_goto, i_getf, i_putf, i_gets, i_nald, i_nast, i_aald, i_aast, i_alen, i_new, i_newa, i_newq, i_math, i_oini, i_iret, i_zret, i_aret, i_vret, z_fit, List.getElem?_cons_zero, List.getElem?_cons_succ, List.set_cons_zero, List.set_cons_succ, Nat.reduceAdd, Nat.reduceLT, Nat.reduceLeDiff, Nat.reduceEqDiff, Nat.zero_lt_succ, Value.category, true_and, or_true, true_or, and_true, false_implies, true_implies, not_false_eq_true, not_true_eq_false, List.map_cons, List.map_nil, List.sum_cons, List.sum_nil, va_up_eq, bx_uu, va_up_lit, List.length_cons, List.length_nil, List.drop_succ_cons, List.drop_zero, Option.toList_some, Option.toList_none, List.cons_append, List.nil_append]))
  exact hP _ _ ⟨rfl, rfl⟩
theorem bkt_in (k a b c d : Int32) : ∃ j, j < 128 ∧ bkt k a b c d = nI j := pk_andE _ 7 (by decide)
theorem c_judged (sc : Nat × (Nat → Int32)) (d : Nat) {h0 : zH} {T : Nat → Nat → Int32} {n k t : Nat} {den : Nat → zT} {τ : zT} (hS : tS h0 T n k) (ht : t < 720) (hr : rw_C (T 0 t) (T 1 t) (T 2 t) (T 3 t) (T 4 t) den t τ) (h5 : ∀ j, T 5 j = 0 ∨ T 5 j = 1) : zMt zTab sc (d + 1) 54 [.ref 1, .int (nI t)] h0 0 0 (fun r h' => h' = h0 ∧ ∃ v, r = some (.int v) ∧ kv T t v) := by
  obtain ⟨e1, e2, e3, e4, e5, e6, e7, e8, e9, e10⟩ := hS
  have v1 := in720 ht
  have v2 := cl720 ht
  refine zM_gen fun P hP => ?_
  refine zM_start (r := r_Te_judged) (cd := k_Te_judged) (L0 := [some (.ref 1), some (.int (nI t))]) rfl rfl rfl rfl rfl ?_
  (repeat (refine zS_one rfl ?_; simp (disch := (first | decide | assumption | omega)) only [i_push, i_null, i_ild, i_ald, i_ist, i_ast, i_inc, i_bin, i_div, i_un, i_dup, i_pop, i_dup2, i_if, i_icmp, i_nul, i_nnl, i_goto, i_getf, i_putf, i_gets, i_nald, i_nast, i_aald, i_aast, i_alen, i_new, i_newa, i_newq, i_math, i_oini, i_iret, i_zret, i_aret, i_vret, z_fit, List.getElem?_cons_zero, List.getElem?_cons_succ, List.set_cons_zero, List.set_cons_succ, Nat.reduceAdd, Nat.reduceLT, Nat.reduceLeDiff, Nat.reduceEqDiff, Nat.zero_lt_succ, Value.category, true_and, or_true, true_or, and_true, false_implies, true_implies, not_false_eq_true, not_true_eq_false, List.map_cons, List.map_nil, List.sum_cons, List.sum_nil, va_up_eq, bx_uu, va_up_lit, List.length_cons, List.length_nil, List.drop_succ_cons, List.drop_zero, Option.toList_some, Option.toList_none, List.cons_append, List.nil_append, e1, e2, v1, v2]))
  (try refine zS_one rfl ?_)
  rcases hr with ⟨hk, h⟩ | ⟨hk, h⟩ | ⟨hk, ⟨p, hp, ha⟩, ⟨q, hq, hb⟩, h⟩ | ⟨hk, x, y, hx, hxm, hy, hym, ha, hb, h⟩ | ⟨hk, x, hx, hxm, ha, h⟩ | ⟨hk, h⟩
  · refine r_tswOut (by rw [hk]; decide) ?_
    (repeat (refine zS_one rfl ?_; simp (disch := (first | decide | assumption | omega)) only [i_push, i_null, i_ild, i_ald, i_ist, i_ast, i_inc, i_bin, i_div, i_un, i_dup, i_pop, i_dup2, i_if, i_icmp, i_nul, i_nnl, i_goto, i_getf, i_putf, i_gets, i_nald, i_nast, i_aald, i_aast, i_alen, i_new, i_newa, i_newq, i_math, i_oini, i_iret, i_zret, i_aret, i_vret, z_fit, List.getElem?_cons_zero, List.getElem?_cons_succ, List.set_cons_zero, List.set_cons_succ, Nat.reduceAdd, Nat.reduceLT, Nat.reduceLeDiff, Nat.reduceEqDiff, Nat.zero_lt_succ, Value.category, true_and, or_true, true_or, and_true, false_implies, true_implies, not_false_eq_true, not_true_eq_false, List.map_cons, List.map_nil, List.sum_cons, List.sum_nil, va_up_eq, bx_uu, va_up_lit, List.length_cons, List.length_nil, List.drop_succ_cons, List.drop_zero, Option.toList_some, Option.toList_none, List.cons_append, List.nil_append]))
    exact hP _ _ ⟨rfl, _, rfl, Or.inl ⟨rfl, jg_oth (by rw [hk]; decide) (by rw [hk]; decide) (by rw [hk]; decide)⟩⟩
  · refine r_tswOut (by rw [hk]; decide) ?_
    (repeat (refine zS_one rfl ?_; simp (disch := (first | decide | assumption | omega)) only [i_push, i_null, i_ild, i_ald, i_ist, i_ast, i_inc, i_bin, i_div, i_un, i_dup, i_pop, i_dup2, i_if, i_icmp, i_nul, i_nnl, i_goto, i_getf, i_putf, i_gets, i_nald, i_nast, i_aald, i_aast, i_alen, i_new, i_newa, i_newq, i_math, i_oini, i_iret, i_zret, i_aret, i_vret, z_fit, List.getElem?_cons_zero, List.getElem?_cons_succ, List.set_cons_zero, List.set_cons_succ, Nat.reduceAdd, Nat.reduceLT, Nat.reduceLeDiff, Nat.reduceEqDiff, Nat.zero_lt_succ, Value.category, true_and, or_true, true_or, and_true, false_implies, true_implies, not_false_eq_true, not_true_eq_false, List.map_cons, List.map_nil, List.sum_cons, List.sum_nil, va_up_eq, bx_uu, va_up_lit, List.length_cons, List.length_nil, List.drop_succ_cons, List.drop_zero, Option.toList_some, Option.toList_none, List.cons_append, List.nil_append]))
    exact hP _ _ ⟨rfl, _, rfl, Or.inl ⟨rfl, jg_oth (by rw [hk]; decide) (by rw [hk]; decide) (by rw [hk]; decide)⟩⟩
  · have w1 : vp_in (nI p) 21 := vp_in_nI (by omega) (by decide)
    have w2 : (nI p).toNatClampNeg = p := nI_clamp (by omega)
    have w3 : vp_in (nI q) 21 := vp_in_nI (by omega) (by decide)
    have w4 : (nI q).toNatClampNeg = q := nI_clamp (by omega)
    refine r_tswIn 0 (by rw [hk]; decide) rfl ?_
    (repeat (refine zS_one rfl ?_; simp (disch := (first | decide | assumption | omega)) only [i_push, i_null, i_ild, i_ald, i_ist, i_ast, i_inc, i_bin, i_div, i_un, i_dup, i_pop, i_dup2, i_if, i_icmp, i_nul, i_nnl, i_goto, i_getf, i_putf, i_gets, i_nald, i_nast, i_aald, i_aast, i_alen, i_new, i_newa, i_newq, i_math, i_oini, i_iret, i_zret, i_aret, i_vret, z_fit, List.getElem?_cons_zero, List.getElem?_cons_succ, List.set_cons_zero, List.set_cons_succ, Nat.reduceAdd, Nat.reduceLT, Nat.reduceLeDiff, Nat.reduceEqDiff, Nat.zero_lt_succ, Value.category, true_and, or_true, true_or, and_true, false_implies, true_implies, not_false_eq_true, not_true_eq_false, List.map_cons, List.map_nil, List.sum_cons, List.sum_nil, va_up_eq, bx_uu, va_up_lit, List.length_cons, List.length_nil, List.drop_succ_cons, List.drop_zero, Option.toList_some, Option.toList_none, List.cons_append, List.nil_append, e1, e2, e3, e4, e10, v1, v2, ha, hb, w1, w2, w3, w4]))
    refine ⟨fun f1 => ?_, fun f1 => ?_⟩
    · (repeat (refine zS_one rfl ?_; simp (disch := (first | decide | assumption | omega)) only [i_push, i_null, i_ild, i_ald, i_ist, i_ast, i_inc, i_bin, i_div, i_un, i_dup, i_pop, i_dup2, i_if, i_icmp, i_nul, i_nnl, i_goto, i_getf, i_putf, i_gets, i_nald, i_nast, i_aald, i_aast, i_alen, i_new, i_newa, i_newq, i_math, i_oini, i_iret, i_zret, i_aret, i_vret, z_fit, List.getElem?_cons_zero, List.getElem?_cons_succ, List.set_cons_zero, List.set_cons_succ, Nat.reduceAdd, Nat.reduceLT, Nat.reduceLeDiff, Nat.reduceEqDiff, Nat.zero_lt_succ, Value.category, true_and, or_true, true_or, and_true, false_implies, true_implies, not_false_eq_true, not_true_eq_false, List.map_cons, List.map_nil, List.sum_cons, List.sum_nil, va_up_eq, bx_uu, va_up_lit, List.length_cons, List.length_nil, List.drop_succ_cons, List.drop_zero, Option.toList_some, Option.toList_none, List.cons_append, List.nil_append]))
      exact hP _ _ ⟨rfl, _, rfl, Or.inl ⟨rfl, ⟨fun _ => Or.inl (by rw [ha, w2]; exact f1), fun z => absurd z (by rw [hk]; decide), fun z => absurd z (by rw [hk]; decide)⟩⟩⟩
    · (repeat (refine zS_one rfl ?_; simp (disch := (first | decide | assumption | omega)) only [i_push, i_null, i_ild, i_ald, i_ist, i_ast, i_inc, i_bin, i_div, i_un, i_dup, i_pop, i_dup2, i_if, i_icmp, i_nul, i_nnl, i_goto, i_getf, i_putf, i_gets, i_nald, i_nast, i_aald, i_aast, i_alen, i_new, i_newa, i_newq, i_math, i_oini, i_iret, i_zret, i_aret, i_vret, z_fit, List.getElem?_cons_zero, List.getElem?_cons_succ, List.set_cons_zero, List.set_cons_succ, Nat.reduceAdd, Nat.reduceLT, Nat.reduceLeDiff, Nat.reduceEqDiff, Nat.zero_lt_succ, Value.category, true_and, or_true, true_or, and_true, false_implies, true_implies, not_false_eq_true, not_true_eq_false, List.map_cons, List.map_nil, List.sum_cons, List.sum_nil, va_up_eq, bx_uu, va_up_lit, List.length_cons, List.length_nil, List.drop_succ_cons, List.drop_zero, Option.toList_some, Option.toList_none, List.cons_append, List.nil_append, e1, e2, e3, e4, e10, v1, v2, ha, hb, w1, w2, w3, w4]))
      refine ⟨fun f2 => ?_, fun f2 => ?_⟩
      · (repeat (refine zS_one rfl ?_; simp (disch := (first | decide | assumption | omega)) only [i_push, i_null, i_ild, i_ald, i_ist, i_ast, i_inc, i_bin, i_div, i_un, i_dup, i_pop, i_dup2, i_if, i_icmp, i_nul, i_nnl, i_goto, i_getf, i_putf, i_gets, i_nald, i_nast, i_aald, i_aast, i_alen, i_new, i_newa, i_newq, i_math, i_oini, i_iret, i_zret, i_aret, i_vret, z_fit, List.getElem?_cons_zero, List.getElem?_cons_succ, List.set_cons_zero, List.set_cons_succ, Nat.reduceAdd, Nat.reduceLT, Nat.reduceLeDiff, Nat.reduceEqDiff, Nat.zero_lt_succ, Value.category, true_and, or_true, true_or, and_true, false_implies, true_implies, not_false_eq_true, not_true_eq_false, List.map_cons, List.map_nil, List.sum_cons, List.sum_nil, va_up_eq, bx_uu, va_up_lit, List.length_cons, List.length_nil, List.drop_succ_cons, List.drop_zero, Option.toList_some, Option.toList_none, List.cons_append, List.nil_append]))
        refine hP _ _ ⟨rfl, _, rfl, Or.inr ⟨rfl, fun hj => ?_⟩⟩
        unfold jg at hj
        rw [hk, ha, hb, w2, w4] at hj
        rcases hj.1 rfl with g | g
        · exact g f1
        · exact g f2
      · (repeat (refine zS_one rfl ?_; simp (disch := (first | decide | assumption | omega)) only [i_push, i_null, i_ild, i_ald, i_ist, i_ast, i_inc, i_bin, i_div, i_un, i_dup, i_pop, i_dup2, i_if, i_icmp, i_nul, i_nnl, i_goto, i_getf, i_putf, i_gets, i_nald, i_nast, i_aald, i_aast, i_alen, i_new, i_newa, i_newq, i_math, i_oini, i_iret, i_zret, i_aret, i_vret, z_fit, List.getElem?_cons_zero, List.getElem?_cons_succ, List.set_cons_zero, List.set_cons_succ, Nat.reduceAdd, Nat.reduceLT, Nat.reduceLeDiff, Nat.reduceEqDiff, Nat.zero_lt_succ, Value.category, true_and, or_true, true_or, and_true, false_implies, true_implies, not_false_eq_true, not_true_eq_false, List.map_cons, List.map_nil, List.sum_cons, List.sum_nil, va_up_eq, bx_uu, va_up_lit, List.length_cons, List.length_nil, List.drop_succ_cons, List.drop_zero, Option.toList_some, Option.toList_none, List.cons_append, List.nil_append]))
        exact hP _ _ ⟨rfl, _, rfl, Or.inl ⟨rfl, ⟨fun _ => Or.inr (by rw [hb, w4]; exact f2), fun z => absurd z (by rw [hk]; decide), fun z => absurd z (by rw [hk]; decide)⟩⟩⟩
  · have w1 := in720 (t := x) (by omega)
    have w2 := cl720 (t := x) (by omega)
    have w3 := in720 (t := y) (by omega)
    have w4 := cl720 (t := y) (by omega)
    have hk3 : ¬ T 0 t = 3 := by rcases hk with hk | hk | hk <;> rw [hk] <;> decide
    have hk7 : ¬ T 0 t = 7 := by rcases hk with hk | hk | hk <;> rw [hk] <;> decide
    have go : zS (zMt zTab sc d, (0, 0), sc) k_Te_judged P (74, [some (.ref 1), some (.int (nI t))], [], h0, 0, 0) := by
      (repeat (refine zS_one rfl ?_; simp (disch := (first | decide | assumption | omega)) only [i_push, i_null, i_ild, i_ald, i_ist, i_ast, i_inc, i_bin, i_div, i_un, i_dup, i_pop, i_dup2, i_if, i_icmp, i_nul, i_nnl, i_goto, i_getf, i_putf, i_gets, i_nald, i_nast, i_aald, i_aast, i_alen, i_new, i_newa, i_newq, i_math, i_oini, i_iret, i_zret, i_aret, i_vret, z_fit, List.getElem?_cons_zero, List.getElem?_cons_succ, List.set_cons_zero, List.set_cons_succ, Nat.reduceAdd, Nat.reduceLT, Nat.reduceLeDiff, Nat.reduceEqDiff, Nat.zero_lt_succ, Value.category, true_and, or_true, true_or, and_true, false_implies, true_implies, not_false_eq_true, not_true_eq_false, List.map_cons, List.map_nil, List.sum_cons, List.sum_nil, va_up_eq, bx_uu, va_up_lit, List.length_cons, List.length_nil, List.drop_succ_cons, List.drop_zero, Option.toList_some, Option.toList_none, List.cons_append, List.nil_append, e1, e2, e3, e4, e7, v1, v2, ha, hb, w1, w2, w3, w4]))
      refine ⟨fun f1 => ?_, fun f1 => ?_⟩
      · (repeat (refine zS_one rfl ?_; simp (disch := (first | decide | assumption | omega)) only [i_push, i_null, i_ild, i_ald, i_ist, i_ast, i_inc, i_bin, i_div, i_un, i_dup, i_pop, i_dup2, i_if, i_icmp, i_nul, i_nnl, i_goto, i_getf, i_putf, i_gets, i_nald, i_nast, i_aald, i_aast, i_alen, i_new, i_newa, i_newq, i_math, i_oini, i_iret, i_zret, i_aret, i_vret, z_fit, List.getElem?_cons_zero, List.getElem?_cons_succ, List.set_cons_zero, List.set_cons_succ, Nat.reduceAdd, Nat.reduceLT, Nat.reduceLeDiff, Nat.reduceEqDiff, Nat.zero_lt_succ, Value.category, true_and, or_true, true_or, and_true, false_implies, true_implies, not_false_eq_true, not_true_eq_false, List.map_cons, List.map_nil, List.sum_cons, List.sum_nil, va_up_eq, bx_uu, va_up_lit, List.length_cons, List.length_nil, List.drop_succ_cons, List.drop_zero, Option.toList_some, Option.toList_none, List.cons_append, List.nil_append]))
        refine hP _ _ ⟨rfl, _, rfl, Or.inr ⟨rfl, fun hj => ?_⟩⟩
        unfold jg at hj
        rw [ha, w2] at hj
        exact (hj.2.1 hk).1 f1
      · (repeat (refine zS_one rfl ?_; simp (disch := (first | decide | assumption | omega)) only [i_push, i_null, i_ild, i_ald, i_ist, i_ast, i_inc, i_bin, i_div, i_un, i_dup, i_pop, i_dup2, i_if, i_icmp, i_nul, i_nnl, i_goto, i_getf, i_putf, i_gets, i_nald, i_nast, i_aald, i_aast, i_alen, i_new, i_newa, i_newq, i_math, i_oini, i_iret, i_zret, i_aret, i_vret, z_fit, List.getElem?_cons_zero, List.getElem?_cons_succ, List.set_cons_zero, List.set_cons_succ, Nat.reduceAdd, Nat.reduceLT, Nat.reduceLeDiff, Nat.reduceEqDiff, Nat.zero_lt_succ, Value.category, true_and, or_true, true_or, and_true, false_implies, true_implies, not_false_eq_true, not_true_eq_false, List.map_cons, List.map_nil, List.sum_cons, List.sum_nil, va_up_eq, bx_uu, va_up_lit, List.length_cons, List.length_nil, List.drop_succ_cons, List.drop_zero, Option.toList_some, Option.toList_none, List.cons_append, List.nil_append, e1, e2, e3, e4, e7, v1, v2, ha, hb, w1, w2, w3, w4]))
        refine ⟨fun f2 => ?_, fun f2 => ?_⟩
        · (repeat (refine zS_one rfl ?_; simp (disch := (first | decide | assumption | omega)) only [i_push, i_null, i_ild, i_ald, i_ist, i_ast, i_inc, i_bin, i_div, i_un, i_dup, i_pop, i_dup2, i_if, i_icmp, i_nul, i_nnl, i_goto, i_getf, i_putf, i_gets, i_nald, i_nast, i_aald, i_aast, i_alen, i_new, i_newa, i_newq, i_math, i_oini, i_iret, i_zret, i_aret, i_vret, z_fit, List.getElem?_cons_zero, List.getElem?_cons_succ, List.set_cons_zero, List.set_cons_succ, Nat.reduceAdd, Nat.reduceLT, Nat.reduceLeDiff, Nat.reduceEqDiff, Nat.zero_lt_succ, Value.category, true_and, or_true, true_or, and_true, false_implies, true_implies, not_false_eq_true, not_true_eq_false, List.map_cons, List.map_nil, List.sum_cons, List.sum_nil, va_up_eq, bx_uu, va_up_lit, List.length_cons, List.length_nil, List.drop_succ_cons, List.drop_zero, Option.toList_some, Option.toList_none, List.cons_append, List.nil_append]))
          refine hP _ _ ⟨rfl, _, rfl, Or.inr ⟨rfl, fun hj => ?_⟩⟩
          unfold jg at hj
          rw [hb, w4] at hj
          exact (hj.2.1 hk).2 f2
        · (repeat (refine zS_one rfl ?_; simp (disch := (first | decide | assumption | omega)) only [i_push, i_null, i_ild, i_ald, i_ist, i_ast, i_inc, i_bin, i_div, i_un, i_dup, i_pop, i_dup2, i_if, i_icmp, i_nul, i_nnl, i_goto, i_getf, i_putf, i_gets, i_nald, i_nast, i_aald, i_aast, i_alen, i_new, i_newa, i_newq, i_math, i_oini, i_iret, i_zret, i_aret, i_vret, z_fit, List.getElem?_cons_zero, List.getElem?_cons_succ, List.set_cons_zero, List.set_cons_succ, Nat.reduceAdd, Nat.reduceLT, Nat.reduceLeDiff, Nat.reduceEqDiff, Nat.zero_lt_succ, Value.category, true_and, or_true, true_or, and_true, false_implies, true_implies, not_false_eq_true, not_true_eq_false, List.map_cons, List.map_nil, List.sum_cons, List.sum_nil, va_up_eq, bx_uu, va_up_lit, List.length_cons, List.length_nil, List.drop_succ_cons, List.drop_zero, Option.toList_some, Option.toList_none, List.cons_append, List.nil_append]))
          refine hP _ _ ⟨rfl, _, rfl, Or.inl ⟨rfl, ?_⟩⟩
          unfold jg
          rw [ha, hb, w2, w4]
          exact ⟨fun z => absurd z hk3, fun _ => ⟨f1, f2⟩, fun z => absurd z hk7⟩
    rcases hk with hk | hk | hk
    · exact r_tswIn 1 (by rw [hk]; decide) rfl go
    · exact r_tswIn 2 (by rw [hk]; decide) rfl go
    · exact r_tswIn 3 (by rw [hk]; decide) rfl go
  · have w1 := in720 (t := x) (by omega)
    have w2 := cl720 (t := x) (by omega)
    refine r_tswIn 4 (by rw [hk]; decide) rfl ?_
    (repeat (refine zS_one rfl ?_; simp (disch := (first | decide | assumption | omega)) only [i_push, i_null, i_ild, i_ald, i_ist, i_ast, i_inc, i_bin, i_div, i_un, i_dup, i_pop, i_dup2, i_if, i_icmp, i_nul, i_nnl, i_goto, i_getf, i_putf, i_gets, i_nald, i_nast, i_aald, i_aast, i_alen, i_new, i_newa, i_newq, i_math, i_oini, i_iret, i_zret, i_aret, i_vret, z_fit, List.getElem?_cons_zero, List.getElem?_cons_succ, List.set_cons_zero, List.set_cons_succ, Nat.reduceAdd, Nat.reduceLT, Nat.reduceLeDiff, Nat.reduceEqDiff, Nat.zero_lt_succ, Value.category, true_and, or_true, true_or, and_true, false_implies, true_implies, not_false_eq_true, not_true_eq_false, List.map_cons, List.map_nil, List.sum_cons, List.sum_nil, va_up_eq, bx_uu, va_up_lit, List.length_cons, List.length_nil, List.drop_succ_cons, List.drop_zero, Option.toList_some, Option.toList_none, List.cons_append, List.nil_append, e1, e2, e3, e4, e7, v1, v2, ha, w1, w2]))
    refine ⟨h5 x, ?_⟩
    refine hP _ _ ⟨rfl, _, rfl, ?_⟩
    rcases h5 x with f1 | f1
    · refine Or.inr ⟨f1, fun hj => ?_⟩
      unfold jg at hj
      rw [ha, w2] at hj
      exact hj.2.2 hk f1
    · refine Or.inl ⟨f1, ?_⟩
      exact ⟨fun z => absurd z (by rw [hk]; decide), fun z => absurd z (by rw [hk]; decide), fun _ => by rw [ha, w2, f1]; decide⟩
  · refine r_tswOut (by rw [hk]; decide) ?_
    (repeat (refine zS_one rfl ?_; simp (disch := (first | decide | assumption | omega)) only [i_push, i_null, i_ild, i_ald, i_ist, i_ast, i_inc, i_bin, i_div, i_un, i_dup, i_pop, i_dup2, i_if, i_icmp, i_nul, i_nnl, i_goto, i_getf, i_putf, i_gets, i_nald, i_nast, i_aald, i_aast, i_alen, i_new, i_newa, i_newq, i_math, i_oini, i_iret, i_zret, i_aret, i_vret, z_fit, List.getElem?_cons_zero, List.getElem?_cons_succ, List.set_cons_zero, List.set_cons_succ, Nat.reduceAdd, Nat.reduceLT, Nat.reduceLeDiff, Nat.reduceEqDiff, Nat.zero_lt_succ, Value.category, true_and, or_true, true_or, and_true, false_implies, true_implies, not_false_eq_true, not_true_eq_false, List.map_cons, List.map_nil, List.sum_cons, List.sum_nil, va_up_eq, bx_uu, va_up_lit, List.length_cons, List.length_nil, List.drop_succ_cons, List.drop_zero, Option.toList_some, Option.toList_none, List.cons_append, List.nil_append]))
    exact hP _ _ ⟨rfl, _, rfl, Or.inl ⟨rfl, jg_oth (by rw [hk]; decide) (by rw [hk]; decide) (by rw [hk]; decide)⟩⟩
