/-! SealedTalksModel: the object at place 15, its arrays at 16 to 43; S its ints, A its rows. -/
def mF (S : Nat → Int32) : List Value := [.int (S 0), .ref 16, .ref 17, .ref 18, .ref 19, .ref 20, .ref 21, .int (S 1), .ref 22, .ref 23, .int (S 2), .ref 24, .int (S 3), .ref 25, .ref 26, .ref 27, .ref 28, .ref 29, .ref 30, .ref 31, .ref 32, .ref 33, .ref 34, .ref 35, .ref 36, .ref 37, .ref 38, .ref 39, .ref 40, .ref 41, .ref 42, .int (S 4), .int (S 5), .int (S 6), .int (S 7), .int (S 8), .int (S 9), .int (S 10), .int (S 11), .int (S 12), .ref 43, .int (S 13), .int (S 14)]
def mKd (p : Nat) : Nat := if p = 16 then 2 else if p = 18 ∨ p = 19 ∨ p = 20 then 3 else if p = 21 ∨ p = 24 ∨ p = 26 ∨ p = 36 then 1 else 0
def mLn (p : Nat) : Nat := if p < 22 then 1200 else if p = 22 then 60 else if p = 23 then 180 else if p = 24 then 40 else if p = 43 then 3 else 12
def MS (h : zH) (S : Nat → Int32) (A : Nat → Nat → Int32) : Prop := h.1 15 = .inr (6, mF S) ∧ ∀ p, 16 ≤ p → p ≤ 43 → h.1 p = .inl (mKd p, mLn p, .inl (A p))
/-- the rest stays -/
def frN (h h' : zH) : Prop := (∀ q, ¬ (15 ≤ q ∧ q ≤ 43) → h'.1 q = h.1 q) ∧ h'.2 = h.2
theorem frN.rf {h : zH} : frN h h := ⟨fun _ _ => rfl, rfl⟩
theorem frN.tr {h h1 h2 : zH} (x : frN h h1) (y : frN h1 h2) : frN h h2 := ⟨fun q a => (y.1 q a).trans (x.1 q a), y.2.trans x.2⟩
theorem frN.put {h : zH} {p : Nat} {e : va_E} (h1 : 15 ≤ p) (h2 : p ≤ 43) : frN h (va_up h.1 p e, h.2) := ⟨fun _ hq => va_up_lit _ _ _ _ (by omega), rfl⟩
theorem MS.put {h : zH} {S : Nat → Int32} {A : Nat → Nat → Int32} (hM : MS h S A) (p : Nat) (g : Nat → Int32) {kd ln : Nat} (h1 : 16 ≤ p) (h2 : p ≤ 43) (hk : kd = mKd p) (hl : ln = mLn p) : MS (va_up h.1 p (.inl (kd, ln, .inl g)), h.2) S (va_up A p g) := by
  subst hk hl
  refine ⟨(va_up_lit _ _ _ _ (by omega)).trans hM.1, fun q h1 h2 => ?_⟩
  by_cases z : q = p
  · subst z
    simp only [va_up_eq]
  · simp (disch := omega) only [va_up_lit]
    exact hM.2 q h1 h2
theorem MS.fld {h : zH} {S S' : Nat → Int32} {A : Nat → Nat → Int32} (hM : MS h S A) {fs : List Value} (hf : fs = mF S') : MS (va_up h.1 15 (.inr (6, fs)), h.2) S' A := by
  subst hf
  refine ⟨by simp only [va_up_eq], fun q h1 h2 => ?_⟩
  simp (disch := omega) only [va_up_lit]
  exact hM.2 q h1 h2
/-- a row of the reference's table -/
def rw_M (k v a b c : Int32) (den : Nat → zT) (m : Nat) (τ : zT) : Prop :=
  (k = 1 ∧ a = 0 ∧ b = 0 ∧ c = 0 ∧ τ = nd 1 v.toInt 0 [] [] []) ∨
  (k = 2 ∧ (∃ p, p ≤ 20 ∧ v = nI p) ∧ a = 0 ∧ b = 0 ∧ c = 0 ∧ τ = nd 2 v.toInt 0 [] [] []) ∨
  (k = 3 ∧ a = 0 ∧ b = 0 ∧ c = 0 ∧ ∃ p q, p ≤ 20 ∧ q ≤ 20 ∧ v = nI (256 * p + q) ∧ τ = nd 3 (nI p).toInt (nI q).toInt [] [] []) ∨
  ((k = 4 ∨ k = 5 ∨ k = 6) ∧ ∃ x y, x < m ∧ y < m ∧ v = 0 ∧ a = nI x ∧ b = nI y ∧ c = 0 ∧ τ = nd k.toInt 0 0 (den x) (den y) []) ∨
  (k = 7 ∧ ∃ x, x < m ∧ a = nI x ∧ b = 0 ∧ c = 0 ∧ τ = nd 7 v.toInt 0 (den x) [] []) ∨
  (k = 8 ∧ ∃ x y z, x < m ∧ y < m ∧ z < m ∧ a = nI x ∧ b = nI y ∧ c = nI z ∧ τ = nd 8 v.toInt 0 (den x) (den y) (den z))
theorem rw_M_mono {k v a b c : Int32} {den den' : Nat → zT} {m m' : Nat} {τ : zT} (h : rw_M k v a b c den m τ) (hm : m ≤ m') (hd : ∀ x, x < m → den' x = den x) : rw_M k v a b c den' m' τ := by
  rcases h with h | h | h | ⟨hk, x, y, hxm, hym, h⟩ | ⟨hk, x, hxm, h⟩ | ⟨hk, x, y, z, hxm, hym, hzm, h⟩
  · exact Or.inl h
  · exact Or.inr (Or.inl h)
  · exact Or.inr (Or.inr (Or.inl h))
  · refine Or.inr (Or.inr (Or.inr (Or.inl ⟨hk, x, y, by omega, by omega, ?_⟩)))
    rw [hd x hxm, hd y hym]
    exact h
  · refine Or.inr (Or.inr (Or.inr (Or.inr (Or.inl ⟨hk, x, by omega, ?_⟩))))
    rw [hd x hxm]
    exact h
  · refine Or.inr (Or.inr (Or.inr (Or.inr (Or.inr ⟨hk, x, y, z, by omega, by omega, by omega, ?_⟩))))
    rw [hd x hxm, hd y hym, hd z hzm]
    exact h
theorem nI256 {p q p' q' : Nat} (h1 : q ≤ 20) (h2 : q' ≤ 20) (hp : p ≤ 20) (hp' : p' ≤ 20) (h : nI (256 * p + q) = nI (256 * p' + q')) : p = p' ∧ q = q' := by
  have := nI_inj (by omega) (by omega) h
  omega
theorem rw_M_fun {k v a b c : Int32} {den : Nat → zT} {m m' : Nat} {τ τ' : zT} (hm : m ≤ 1200) (hm' : m' ≤ 1200) (h : rw_M k v a b c den m τ) (h' : rw_M k v a b c den m' τ') : τ = τ' := by
  rcases h with ⟨hk, h⟩ | ⟨hk, h⟩ | ⟨hk, h⟩ | ⟨hk, x, y, hxm, hym, h⟩ | ⟨hk, x, hxm, h⟩ | ⟨hk, x, y, z, hxm, hym, hzm, h⟩ <;>
  rcases h' with ⟨hk', h'⟩ | ⟨hk', h'⟩ | ⟨hk', h'⟩ | ⟨hk', x', y', hxm', hym', h'⟩ | ⟨hk', x', hxm', h'⟩ | ⟨hk', x', y', z', hxm', hym', hzm', h'⟩
  all_goals first
    | (exfalso; subst hk; revert hk'; decide)
    | (exfalso; subst hk'; revert hk; decide)
    | skip
  · rw [h.2.2.2, h'.2.2.2]
  · rw [h.2.2.2.2, h'.2.2.2.2]
  · obtain ⟨-, -, -, p, q, hp, hq, e1, e2⟩ := h
    obtain ⟨-, -, -, p', q', hp', hq', e1', e2'⟩ := h'
    obtain ⟨rfl, rfl⟩ := nI256 hq hq' hp hp' (e1.symm.trans e1')
    rw [e2, e2']
  · obtain ⟨-, h1, h2, -, h3⟩ := h
    obtain ⟨-, g1, g2, -, g3⟩ := h'
    rw [h3, g3, nI_inj (by omega) (by omega) (h1.symm.trans g1), nI_inj (by omega) (by omega) (h2.symm.trans g2)]
  · obtain ⟨h1, -, -, h3⟩ := h
    obtain ⟨g1, -, -, g3⟩ := h'
    rw [h3, g3, nI_inj (by omega) (by omega) (h1.symm.trans g1)]
  · obtain ⟨h1, h2, h4, h3⟩ := h
    obtain ⟨g1, g2, g4, g3⟩ := h'
    rw [h3, g3, nI_inj (by omega) (by omega) (h1.symm.trans g1), nI_inj (by omega) (by omega) (h2.symm.trans g2), nI_inj (by omega) (by omega) (h4.symm.trans g4)]
theorem rw_M_inj {k v a b c k' v' a' b' c' : Int32} {den : Nat → zT} {m m' n : Nat} {τ : zT} (hi : ∀ x y, x < n → y < n → den x = den y → x = y) (hm : m ≤ n) (hm' : m' ≤ n) (h : rw_M k v a b c den m τ) (h' : rw_M k' v' a' b' c' den m' τ) : k = k' ∧ v = v' ∧ a = a' ∧ b = b' ∧ c = c' := by
  have kk : k.toInt = k'.toInt := by
    have e : ∀ {k v a b c : Int32} {m : Nat}, rw_M k v a b c den m τ → ∃ y z t u w, τ = nd k.toInt y z t u w := by
      intro k v a b c m h
      rcases h with ⟨rfl, -, -, -, h⟩ | ⟨rfl, -, -, -, -, h⟩ | ⟨rfl, -, -, -, p, q, -, -, -, h⟩ | ⟨-, x, y, -, -, -, -, -, -, h⟩ | ⟨rfl, x, -, -, -, -, h⟩ | ⟨rfl, x, y, z, -, -, -, -, -, -, h⟩ <;> exact ⟨_, _, _, _, _, h⟩
    obtain ⟨_, _, _, _, _, e1⟩ := e h
    obtain ⟨_, _, _, _, _, e2⟩ := e h'
    exact (nd_inj (e1.symm.trans e2)).1
  have kk := i32_inj kk
  subst kk
  refine ⟨rfl, ?_⟩
  rcases h with ⟨hk, h⟩ | ⟨hk, h⟩ | ⟨hk, h⟩ | ⟨hk, x, y, hxm, hym, h⟩ | ⟨hk, x, hxm, h⟩ | ⟨hk, x, y, z, hxm, hym, hzm, h⟩ <;>
  rcases h' with ⟨hk', h'⟩ | ⟨hk', h'⟩ | ⟨hk', h'⟩ | ⟨hk', x', y', hxm', hym', h'⟩ | ⟨hk', x', hxm', h'⟩ | ⟨hk', x', y', z', hxm', hym', hzm', h'⟩
  all_goals first
    | (exfalso; subst hk; revert hk'; decide)
    | (exfalso; subst hk'; revert hk; decide)
    | skip
  · obtain ⟨h1, h2, h3, h4⟩ := h
    obtain ⟨g1, g2, g3, g4⟩ := h'
    exact ⟨i32_inj (nd_inj (h4.symm.trans g4)).2.1, h1.trans g1.symm, h2.trans g2.symm, h3.trans g3.symm⟩
  · obtain ⟨-, h1, h2, h3, h4⟩ := h
    obtain ⟨-, g1, g2, g3, g4⟩ := h'
    exact ⟨i32_inj (nd_inj (h4.symm.trans g4)).2.1, h1.trans g1.symm, h2.trans g2.symm, h3.trans g3.symm⟩
  · obtain ⟨h1, h2, h3, p, q, hp, hq, e1, h4⟩ := h
    obtain ⟨g1, g2, g3, p', q', hp', hq', e1', g4⟩ := h'
    obtain ⟨-, z1, z2, -⟩ := nd_inj (h4.symm.trans g4)
    have z1 := nI_inj (by omega) (by omega) (i32_inj z1)
    have z2 := nI_inj (by omega) (by omega) (i32_inj z2)
    subst z1 z2
    exact ⟨e1.trans e1'.symm, h1.trans g1.symm, h2.trans g2.symm, h3.trans g3.symm⟩
  · obtain ⟨h0, h1, h2, h3, h4⟩ := h
    obtain ⟨g0, g1, g2, g3, g4⟩ := h'
    obtain ⟨-, -, -, z1, z2, -⟩ := nd_inj (h4.symm.trans g4)
    rw [hi x x' (by omega) (by omega) z1] at h1
    rw [hi y y' (by omega) (by omega) z2] at h2
    exact ⟨h0.trans g0.symm, h1.trans g1.symm, h2.trans g2.symm, h3.trans g3.symm⟩
  · obtain ⟨h1, h2, h3, h4⟩ := h
    obtain ⟨g1, g2, g3, g4⟩ := h'
    obtain ⟨-, z0, -, z1, -⟩ := nd_inj (h4.symm.trans g4)
    rw [hi x x' (by omega) (by omega) z1] at h1
    exact ⟨i32_inj z0, h1.trans g1.symm, h2.trans g2.symm, h3.trans g3.symm⟩
  · obtain ⟨h1, h2, h3, h4⟩ := h
    obtain ⟨g1, g2, g3, g4⟩ := h'
    obtain ⟨-, z0, -, z1, z2, z3⟩ := nd_inj (h4.symm.trans g4)
    rw [hi x x' (by omega) (by omega) z1] at h1
    rw [hi y y' (by omega) (by omega) z2] at h2
    rw [hi z z' (by omega) (by omega) z3] at h3
    exact ⟨i32_inj z0, h1.trans g1.symm, h2.trans g2.symm, h3.trans g3.symm⟩
theorem i16_id {x : Nat} (h : x < 1200) : (nI x).toInt16.toInt32 = nI x := by
  apply i32_inj
  rw [Int16.toInt_toInt32, Int32.toInt_toInt16, nI_toInt (by omega)]
  rw [Int.bmod_def]
  omega
/-- the narrow fields hold what is put there -/
theorem rw_M_nar {k v a b c : Int32} {den : Nat → zT} {m : Nat} {τ : zT} (hm : m ≤ 1200) (h : rw_M k v a b c den m τ) : k.toInt8.toInt32 = k ∧ a.toInt16.toInt32 = a ∧ b.toInt16.toInt32 = b ∧ c.toInt16.toInt32 = c := by
  have z0 : (0 : Int32).toInt16.toInt32 = 0 := by decide
  rcases h with ⟨rfl, rfl, rfl, rfl, -⟩ | ⟨rfl, -, rfl, rfl, rfl, -⟩ | ⟨rfl, rfl, rfl, rfl, -⟩ | ⟨hk, x, y, hxm, hym, -, rfl, rfl, rfl, -⟩ | ⟨rfl, x, hxm, rfl, rfl, rfl, -⟩ | ⟨rfl, x, y, z, hxm, hym, hzm, rfl, rfl, rfl, -⟩
  · exact ⟨by decide, z0, z0, z0⟩
  · exact ⟨by decide, z0, z0, z0⟩
  · exact ⟨by decide, z0, z0, z0⟩
  · exact ⟨by rcases hk with rfl | rfl | rfl <;> decide, i16_id (by omega), i16_id (by omega), z0⟩
  · exact ⟨by decide, i16_id (by omega), z0, z0⟩
  · exact ⟨by decide, i16_id (by omega), i16_id (by omega), i16_id (by omega)⟩
def TM (A : Nat → Nat → Int32) (n : Nat) (den : Nat → zT) : Prop := n ≤ 1200 ∧ (∀ t, t < n → rw_M (A 16 t) (A 17 t) (A 18 t) (A 19 t) (A 20 t) den t (den t)) ∧ ∀ t u, t < n → u < n → den t = den u → t = u
def MW (h : zH) (S : Nat → Int32) (A : Nat → Nat → Int32) (n : Nat) (den : Nat → zT) : Prop := MS h S A ∧ S 0 = nI n ∧ TM A n den
def exM (n : Nat) (den : Nat → zT) (n' : Nat) (den' : Nat → zT) (c : Nat) : Prop := n ≤ n' ∧ n' ≤ n + c ∧ ∀ u, u < n → den' u = den u
theorem exM.rf {n c : Nat} {den : Nat → zT} : exM n den n den c := ⟨Nat.le_refl _, Nat.le_add_right _ _, fun _ _ => rfl⟩
theorem exM.tr {n n1 n2 c c' : Nat} {den den1 den2 : Nat → zT} (x : exM n den n1 den1 c) (y : exM n1 den1 n2 den2 c') : exM n den n2 den2 (c + c') := ⟨Nat.le_trans x.1 y.1, by have := x.2.1; have := y.2.1; omega, fun u hu => (y.2.2 u (Nat.lt_of_lt_of_le hu x.1)).trans (x.2.2 u hu)⟩
/-- what making the term τ leaves -/
def tmQ (h0 : zH) (S : Nat → Int32) (A : Nat → Nat → Int32) (n : Nat) (den : Nat → zT) (τ : zT) : zP := fun r h' => ∃ t n' den' S' A', r = some (.int (nI t)) ∧ t < n' ∧ den' t = τ ∧ MW h' S' A' n' den' ∧ exM n den n' den' 1 ∧ (∀ q, q ≠ 0 → S' q = S q) ∧ (∀ p, 20 < p → A' p = A p) ∧ frN h0 h'
