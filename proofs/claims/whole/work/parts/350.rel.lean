/-! What the two have in common: p the pattern, st the steps, i whether it begins. -/
abbrev zD : Type := Nat × Nat × Nat
def lmN (p : Nat) : Nat := if p = 0 then 3 else 2
def okP (τ : zT) : Prop := tkd τ = 1 ∨ tkd τ = 2 ∨ ∃ (c : Int32) (X Y Z : zT), τ = nd 8 c.toInt 0 X Y Z ∧ c.toInt < 60 ∧ (tkd Z = 1 ∨ tkd Z = 2)
def sI (m : Nat) (I : Nat → Int32) (D : zD) : Prop := (D.1 ≤ 1 ∧ D.2.2 ≤ 1 ∧ D.2.1 ≤ lmN D.1) ∧ (I 0 = nI D.1 ∧ I 7 = nI D.2.1 ∧ I 1 = nI D.2.2) ∧ (∃ c, c ≤ 5 * D.2.1 ∧ I 6 = nI c) ∧ (∃ c, c ≤ m ∧ I 12 = nI c) ∧ (I 8 = 0 → ∃ a, I 9 = nI a ∧ a < (if D.2.1 < lmN D.1 then 6 else 30))
def rl_w (D : zD) : Nat := if D.1 = 0 then (if D.2.2 = 1 then ([5, 8, 24, 31] : List Nat).getD D.2.1 0 else ([5, 12, 24, 35] : List Nat).getD D.2.1 0) else (if D.2.2 = 1 then ([5, 17, 30] : List Nat).getD D.2.1 0 else ([5, 21, 30] : List Nat).getD D.2.1 0)
def rl_x (D : zD) : Nat := 5 + 15 * D.2.1
def rl_e (D : zD) : Nat := if D.2.2 = 1 then (if D.2.1 = 0 then 0 else 1) else (if D.2.1 < 2 then 0 else 1)
def rl_s (f : zD → Nat) (D : Nat → zD) : Nat → Nat
  | 0 => 0
  | s + 1 => rl_s f D s + f (D s)
theorem rl_s_ext {f : zD → Nat} {D D' : Nat → zD} : ∀ ns, (∀ s, s < ns → D' s = D s) → rl_s f D' ns = rl_s f D ns
  | 0, _ => rfl
  | s + 1, h => by
    show rl_s f D' s + f (D' s) = rl_s f D s + f (D s)
    rw [rl_s_ext s (fun t ht => h t (by omega)), h s (by omega)]
theorem rl_s_up {f : zD → Nat} {D : Nat → zD} {s : Nat} {x : zD} : ∀ ns, s < ns → rl_s f (va_up D s x) ns + f (D s) = rl_s f D ns + f x
  | 0, h => by omega
  | t + 1, h => by
    show rl_s f (va_up D s x) t + f (va_up D s x t) + f (D s) = rl_s f D t + f (D t) + f x
    by_cases z : s = t
    · subst z
      rw [va_up_eq, rl_s_ext (D := D) s (fun t ht => va_up_lit _ _ _ _ (by omega))]
      omega
    · rw [va_up_lit _ _ _ _ (by omega)]
      have := rl_s_up (f := f) (D := D) (x := x) t (show s < t by omega)
      omega
theorem rl_s_new {f : zD → Nat} {D : Nat → zD} {ns : Nat} {x : zD} : rl_s f (va_up D ns x) (ns + 1) = rl_s f D ns + f x := by
  show rl_s f (va_up D ns x) ns + f (va_up D ns x ns) = _
  rw [va_up_eq, rl_s_ext (D := D) ns (fun t ht => va_up_lit _ _ _ _ (by omega))]
theorem rl_s_le {f : zD → Nat} {D : Nat → zD} {b : Nat} : ∀ ns, (∀ s, s < ns → f (D s) ≤ b) → rl_s f D ns ≤ b * ns
  | 0, _ => Nat.le_refl _
  | s + 1, h => by
    show rl_s f D s + f (D s) ≤ b * (s + 1)
    have h1 := rl_s_le (f := f) (D := D) s (fun t ht => h t (by omega))
    have h2 := h s (by omega)
    rw [Nat.mul_add]
    omega
/-- at most B terms, the zero aside -/
def bz (B n : Nat) (den : Nat → zT) : Prop := n ≤ B ∨ (n ≤ B + 1 ∧ ∃ t, 0 < t ∧ t ≤ n ∧ den t = tN 0)
theorem bz.le {B n : Nat} {den : Nat → zT} (h : bz B n den) : n ≤ B + 1 := by
  rcases h with h | h
  · omega
  · exact h.1
theorem bz.ex {B B' n n' c : Nat} {den den' : Nat → zT} (h : bz B n den) (hx : exq n den n' den' c) (hB : B + c ≤ B') : bz B' n' den' := by
  have h1 := hx.1
  have h2 := hx.2.1
  rcases h with h | ⟨h, t, t1, t2, t3⟩
  · exact Or.inl (by omega)
  · exact Or.inr ⟨by omega, t, t1, by omega, (hx.2.2 t t1 t2).trans t3⟩
theorem bz.ex0 {B n n' : Nat} {den den' : Nat → zT} (h : bz B n den) (hx : ex0 n den n' den') : bz B n' den' := by
  obtain ⟨hq, h0⟩ := hx
  have h2 := hq.2.1
  rcases h0 with h0 | ⟨h0, ht⟩
  · subst h0
    rcases h with h | ⟨h, t, t1, t2, t3⟩
    · exact Or.inl h
    · exact Or.inr ⟨h, t, t1, t2, (hq.2.2 t t1 t2).trans t3⟩
  · rcases h with h | ⟨h, t, t1, t2, t3⟩
    · exact Or.inr ⟨by omega, ht⟩
    · exact absurd t3 (h0 t t1 t2)
/-- the cases of D -/
theorem sI.cs {m : Nat} {I : Nat → Int32} {p st i : Nat} (h : sI m I (p, st, i)) : (p = 0 ∧ (st = 0 ∨ st = 1 ∨ st = 2 ∨ st = 3) ∨ p = 1 ∧ (st = 0 ∨ st = 1 ∨ st = 2)) ∧ (i = 0 ∨ i = 1) := by
  obtain ⟨⟨h1, h2, h3⟩, -⟩ := h
  have h1 : p ≤ 1 := h1
  have h2 : i ≤ 1 := h2
  have h3 : st ≤ lmN p := h3
  unfold lmN at h3
  refine ⟨?_, by omega⟩
  by_cases z : p = 0
  · rw [if_pos z] at h3; omega
  · rw [if_neg z] at h3; omega
theorem sI.e {m : Nat} {I : Nat → Int32} {p st i : Nat} (h : sI m I (p, st, i)) : I 0 = nI p ∧ I 7 = nI st ∧ I 1 = nI i := h.2.1
theorem sI.lt {m : Nat} {I : Nat → Int32} {p st i : Nat} (h : sI m I (p, st, i)) : I 7 < lim I ↔ st < lmN p := by
  obtain ⟨e0, e7, e1⟩ := h.e
  unfold lim
  rw [e0, e7]
  obtain ⟨hc, -⟩ := h.cs
  rcases hc with ⟨rfl, hc⟩ | ⟨rfl, hc⟩
  · rcases hc with rfl | rfl | rfl | rfl <;> decide
  · rcases hc with rfl | rfl | rfl <;> decide
theorem sI.st {m : Nat} {I : Nat → Int32} {p st i : Nat} (h : sI m I (p, st, i)) : ¬ lim I < I 7 := by
  obtain ⟨e0, e7, e1⟩ := h.e
  unfold lim
  rw [e0, e7]
  obtain ⟨hc, -⟩ := h.cs
  rcases hc with ⟨rfl, hc⟩ | ⟨rfl, hc⟩
  · rcases hc with rfl | rfl | rfl | rfl <;> decide
  · rcases hc with rfl | rfl | rfl <;> decide
theorem sI.my {m : Nat} {I : Nat → Int32} {p st i : Nat} (h : sI m I (p, st, i)) : myT I ↔ (st < lmN p ∧ i = (if st % 2 = 0 then 1 else 0)) := by
  obtain ⟨e0, e7, e1⟩ := h.e
  unfold myT lim
  rw [e0, e7, e1]
  obtain ⟨hc, hi⟩ := h.cs
  rcases hc with ⟨rfl, hc⟩ | ⟨rfl, hc⟩
  · rcases hc with rfl | rfl | rfl | rfl <;> rcases hi with rfl | rfl <;> decide
  · rcases hc with rfl | rfl | rfl <;> rcases hi with rfl | rfl <;> decide
theorem sI.row {m : Nat} {I : Nat → Int32} {p st i : Nat} (h : sI m I (p, st, i)) : rowI I = p * 3 + st := by
  obtain ⟨e0, e7, e1⟩ := h.e
  unfold rowI
  rw [e0, e7]
  obtain ⟨hc, hi⟩ := h.cs
  rw [nI_clamp (by omega), nI_clamp (by omega)]
theorem sI.w35 {m : Nat} {I : Nat → Int32} {D : zD} (h : sI m I D) : rl_w D ≤ 35 ∧ rl_x D ≤ 50 ∧ rl_e D ≤ 1 := by
  obtain ⟨p, st, i⟩ := D
  obtain ⟨hc, hi⟩ := h.cs
  rcases hc with ⟨rfl, hc⟩ | ⟨rfl, hc⟩
  · rcases hc with rfl | rfl | rfl | rfl <;> rcases hi with rfl | rfl <;> decide
  · rcases hc with rfl | rfl | rfl <;> rcases hi with rfl | rfl <;> decide
/-- a step's costs -/
theorem sI.wr {m : Nat} {I : Nat → Int32} {p st i : Nat} (h : sI m I (p, st, i)) (hm : myT I) : rl_w (p, st, i) + (crow (rowI I) + 5) ≤ rl_w (p, st + 1, i) + 4 ∧ rl_x (p, st, i) + 15 ≤ rl_x (p, st + 1, i) ∧ rl_e (p, st + 1, i) = rl_e (p, st, i) + (if rowI I = 2 then 0 else 1) ∧ (¬ rowI I = 2 → rl_e (p, st, i) = 0) ∧ rowI I ≤ 4 := by
  rw [h.my] at hm
  rw [h.row]
  obtain ⟨hc, hi⟩ := h.cs
  obtain ⟨h1, h2⟩ := hm
  rcases hc with ⟨rfl, hc⟩ | ⟨rfl, hc⟩
  · rcases hc with rfl | rfl | rfl | rfl <;> rcases hi with rfl | rfl <;> first | decide | exact absurd h1 (by decide) | exact absurd h2 (by decide)
  · rcases hc with rfl | rfl | rfl <;> rcases hi with rfl | rfl <;> first | decide | exact absurd h1 (by decide) | exact absurd h2 (by decide)
theorem sI.rd {m : Nat} {I : Nat → Int32} {p st i : Nat} (h : sI m I (p, st, i)) (h7 : I 7 < lim I) (hm : ¬ myT I) : rl_w (p, st, i) + (crow (rowI I) + 5) ≤ rl_w (p, st + 1, i) ∧ rl_x (p, st, i) + 13 ≤ rl_x (p, st + 1, i) ∧ rl_e (p, st + 1, i) = rl_e (p, st, i) := by
  rw [h.my] at hm
  rw [h.lt] at h7
  rw [h.row]
  obtain ⟨hc, hi⟩ := h.cs
  rcases hc with ⟨rfl, hc⟩ | ⟨rfl, hc⟩
  · rcases hc with rfl | rfl | rfl | rfl <;> rcases hi with rfl | rfl <;> first | decide | exact absurd h7 (by decide) | exact absurd ⟨h7, by decide⟩ hm
  · rcases hc with rfl | rfl | rfl <;> rcases hi with rfl | rfl <;> first | decide | exact absurd h7 (by decide) | exact absurd ⟨h7, by decide⟩ hm
/-- nothing that counts has changed -/
theorem sI.sm {m m' : Nat} {I J : Nat → Int32} {D : zD} (h : sI m I D) (hm : m ≤ m') (hJ : ∀ q, q < 10 → J q = I q) (h12 : J 12 = I 12) : sI m' J D := by
  obtain ⟨h1, ⟨e0, e7, e1⟩, ⟨c, c1, c2⟩, ⟨a, a1, a2⟩, h8⟩ := h
  refine ⟨h1, ⟨(hJ 0 (by decide)).trans e0, (hJ 7 (by decide)).trans e7, (hJ 1 (by decide)).trans e1⟩, ⟨c, c1, (hJ 6 (by decide)).trans c2⟩, ⟨a, by omega, h12.trans a2⟩, fun z => ?_⟩
  rw [hJ 8 (by decide)] at z
  rw [hJ 9 (by decide)]
  exact h8 z
theorem sI.stp {m m' : Nat} {I J : Nat → Int32} {p st i : Nat} (h : sI m I (p, st, i)) (hm : m ≤ m') (h7 : I 7 < lim I) (j0 : J 0 = I 0) (j1 : J 1 = I 1) (j7 : J 7 = I 7 + 1) (j6 : ∃ c, c ≤ 5 * (st + 1) ∧ J 6 = nI c) (ht : tl8 I J) : sI m' (endI J) (p, st + 1, i) := by
  have hlt := (h.lt).mp h7
  obtain ⟨⟨b1, b2, b3⟩, ⟨e0, e7, e1⟩, -, ⟨a, a1, a2⟩, h8⟩ := h
  have b1 : p ≤ 1 := b1
  have b2 : i ≤ 1 := b2
  have e7' : J 7 = nI (st + 1) := by rw [j7, show I 7 = nI st from e7, nI_1']
  have q : ∀ x, x ≠ 9 → endI J x = J x := fun x hx => by unfold endI; split; rfl; exact va_up_lit _ _ _ _ hx
  have hlt2 : J 7 < lim J ↔ st + 1 < lmN p := by
    unfold lim
    rw [e7', j0, show I 0 = nI p from e0]
    have : st < 3 := by unfold lmN at hlt; split at hlt <;> omega
    rcases (show p = 0 ∨ p = 1 by omega) with rfl | rfl <;> rcases (show st = 0 ∨ st = 1 ∨ st = 2 by omega) with rfl | rfl | rfl <;> decide
  refine ⟨⟨b1, b2, hlt⟩, ⟨(q 0 (by decide)).trans (j0.trans e0), (q 7 (by decide)).trans e7', (q 1 (by decide)).trans (j1.trans e1)⟩, ?_, ⟨a, by omega, (q 12 (by decide)).trans ((ht 12 (by decide)).trans a2)⟩, fun z => ?_⟩
  · rw [q 6 (by decide)]; exact j6
  · rw [q 8 (by decide), ht 8 (by decide)] at z
    obtain ⟨c, c1, c2⟩ := h8 z
    rw [if_pos hlt] at c2
    show ∃ a, endI J 9 = nI a ∧ a < (if st + 1 < lmN p then 6 else 30)
    by_cases w : J 7 < lim J
    · have e : endI J = J := if_pos w
      rw [e, if_pos (hlt2.mp w), ht 9 (by decide)]
      exact ⟨c, c1, c2⟩
    · have e : endI J 9 = 0 := by unfold endI; rw [if_neg w]; exact va_up_eq _ _ _
      rw [e, if_neg (fun z => w (hlt2.mpr z))]
      exact ⟨0, rfl, by decide⟩
theorem prt_ok {I : Nat → Int32} {Θ : Nat → zT} {τ : zT} {c : Nat} (h : I 6 = nI c) (hc : c < 60) (hτ : tkd τ = 1 ∨ tkd τ = 2) : okP (prt I Θ τ) := by
  unfold prt
  split
  · rcases hτ with h | h
    · exact Or.inl h
    · exact Or.inr (Or.inl h)
  · exact Or.inr (Or.inr ⟨I 6, Θ 2, Θ 0, τ, rfl, by rw [h, nI_toInt (by omega)]; omega, hτ⟩)
theorem inc_6 {I : Nat → Int32} {Θ : Nat → zT} {c : Nat} (h : ∃ c', c' ≤ c ∧ I 6 = nI c') : ∃ c', c' ≤ c + 1 ∧ inc I Θ 6 = nI c' := by
  obtain ⟨c', h1, h2⟩ := h
  unfold inc
  split
  · exact ⟨c', by omega, h2⟩
  · exact ⟨c' + 1, by omega, by rw [va_up_eq, h2, nI_1']⟩
def wG (c : Nat) (s : zW) : Prop := (∃ c', c' ≤ c ∧ s.1 6 = nI c') ∧ ∀ τ, τ ∈ s.2.2.1 → okP τ
theorem wtok_G {tok : Int32} {s : zW} {c : Nat} (h : wG c s) (hc : c < 50) : wG (c + 1) (wtok tok s) := by
  obtain ⟨⟨c', h1, h2⟩, h3⟩ := h
  unfold wtok
  split
  · refine ⟨⟨c', by omega, h2⟩, fun τ hτ => ?_⟩
    rcases List.mem_append.mp hτ with z | z
    · exact h3 τ z
    · rw [List.mem_singleton.mp z]; exact Or.inr (Or.inl rfl)
  · split
    · refine ⟨inc_6 ⟨c', h1, h2⟩, fun τ hτ => ?_⟩
      rcases List.mem_append.mp hτ with z | z
      · exact h3 τ z
      · rw [List.mem_singleton.mp z]; exact prt_ok h2 (by omega) (Or.inr rfl)
    · split
      · exact ⟨⟨c', by omega, h2⟩, h3⟩
      · exact ⟨⟨0, by omega, rfl⟩, h3⟩
def isE (tok : Int32) : Nat := if tok = 1 then 1 else 0
theorem wtok_kE {tok : Int32} {s : zW} : (wtok tok s).2.2.2 = s.2.2.2 + isE tok := by
  unfold isE
  by_cases h : tok = 1
  · rw [if_pos h]; unfold wtok; rw [if_pos h]
  · rw [if_neg h]; exact wtok_k h
theorem wrow_E : ∀ r, r ≤ 4 → isE (z_tok (r * 4 + 0)) + isE (z_tok (r * 4 + 1)) + isE (z_tok (r * 4 + 2)) + isE (z_tok (r * 4 + 3)) = (if r = 2 then 0 else 1) := by decide
theorem wpay_k {r k : Nat} {v : Int32} {I : Nat → Int32} {Θ : Nat → zT} {l : List zT} (hr : r ≤ 4) : (wpay v (wrow r (I, Θ, l, k))).2.2.2 = k + (if r = 2 then 0 else 1) := by
  show (wrow r (I, Θ, l, k)).2.2.2 = _
  unfold wrow
  rw [wtok_kE, wtok_kE, wtok_kE, wtok_kE, ← wrow_E r hr]
  show k + _ + _ + _ + _ = _
  omega
theorem wpay_G {r k c : Nat} {v : Int32} {I : Nat → Int32} {Θ : Nat → zT} (h : I 6 = nI c) (hc : c < 40) : (∃ c', c' ≤ c + 5 ∧ (wpay v (wrow r (I, Θ, [], k))).1 6 = nI c') ∧ ∀ τ, τ ∈ (wpay v (wrow r (I, Θ, [], k))).2.2.1 → okP τ := by
  have h0 : wG c (I, Θ, [], k) := ⟨⟨c, Nat.le_refl _, h⟩, fun τ hτ => by cases hτ⟩
  have h4 : wG (c + 1 + 1 + 1 + 1) (wrow r (I, Θ, [], k)) := wtok_G (wtok_G (wtok_G (wtok_G h0 (by omega)) (by omega)) (by omega)) (by omega)
  generalize wrow r (I, Θ, [], k) = s at h4
  obtain ⟨h5, h6⟩ := h4
  refine ⟨?_, fun τ hτ => ?_⟩
  · show ∃ c', c' ≤ c + 5 ∧ va_up (inc s.1 s.2.1) 7 (s.1 7 + 1) 6 = nI c'
    rw [va_up_lit _ _ _ _ (by decide)]
    exact inc_6 h5
  · rcases List.mem_append.mp hτ with z | z
    · exact h6 τ z
    · rw [List.mem_singleton.mp z]
      obtain ⟨c', c1, c2⟩ := h5
      exact prt_ok c2 (by omega) (Or.inl rfl)
theorem rtok_6 {tok : Int32} {l : List zT} {s s' : zR3} {c : Nat} (h : rtok tok l s = some s') (h6 : ∃ c', c' ≤ c ∧ s.1 6 = nI c') : ∃ c', c' ≤ c + 1 ∧ s'.1 6 = nI c' := by
  have h6' : ∃ c', c' ≤ c + 1 ∧ s.1 6 = nI c' := by
    obtain ⟨c', h1, h2⟩ := h6
    exact ⟨c', by omega, h2⟩
  unfold rtok at h
  split at h
  · split at h
    · cases hr : rk tok s.1 s.2.1 _ with
      | none => rw [hr] at h; cases h
      | some q =>
        rw [hr] at h
        cases h
        show ∃ c', c' ≤ c + 1 ∧ q.1 6 = nI c'
        unfold rk at hr
        split at hr
        · split at hr
          · cases hr
            exact h6'
          · cases hr
        · split at hr
          · split at hr
            · cases hr
              exact inc_6 h6
            · cases hr
          · cases hr
    · cases h
  · split at h
    · cases h; exact h6'
    · cases h; exact ⟨0, by omega, rfl⟩
theorem rpay_I {l : List zT} {s : zR3} {q : (Nat → Int32) × (Nat → zT) × zT} {c : Nat} (h : rpay l s = some q) (h6 : ∃ c', c' ≤ c ∧ s.1 6 = nI c') : q.1 0 = s.1 0 ∧ q.1 1 = s.1 1 ∧ q.1 7 = s.1 7 + 1 ∧ ∃ c', c' ≤ c + 1 ∧ q.1 6 = nI c' := by
  have hi : (inc s.1 s.2.1) 0 = s.1 0 ∧ (inc s.1 s.2.1) 1 = s.1 1 := by unfold inc; split <;> exact ⟨rfl, rfl⟩
  unfold rpay at h
  split at h
  · split at h
    · split at h
      · cases h
        exact ⟨hi.1, hi.2, rfl, inc_6 h6⟩
      · cases h
    · cases h
  · cases h
theorem rfin_I {r c : Nat} {l : List zT} {I I' : Nat → Int32} {Θ Θ' : Nat → zT} {Z : zT} (h : rfin r l I Θ = some (I', Θ', Z)) (h6 : I 6 = nI c) : I' 0 = I 0 ∧ I' 1 = I 1 ∧ I' 7 = I 7 + 1 ∧ ∃ c', c' ≤ c + 5 ∧ I' 6 = nI c' := by
  unfold rfin at h
  split at h
  · unfold rrow at h
    simp only [Option.bind_eq_some_iff] at h
    obtain ⟨s4, ⟨s3, ⟨s2, ⟨s1, h1, h2⟩, h3⟩, h4⟩, h5⟩ := h
    have g1 := rtok_I h1
    have g2 := rtok_I h2
    have g3 := rtok_I h3
    have g4 := rtok_I h4
    have k4 := rtok_6 h4 (rtok_6 h3 (rtok_6 h2 (rtok_6 h1 (c := c) ⟨c, Nat.le_refl _, h6⟩)))
    obtain ⟨q0, q1, q7, q6⟩ := rpay_I h5 k4
    exact ⟨q0.trans (g4.1.trans (g3.1.trans (g2.1.trans g1.1))), q1.trans (g4.2.2.1.trans (g3.2.2.1.trans (g2.2.2.1.trans g1.2.2.1))), q7.trans (congrArg (· + 1) (g4.2.1.trans (g3.2.1.trans (g2.2.1.trans g1.2.1)))), q6⟩
  · cases h
theorem wpay_I {r k : Nat} {v : Int32} {I : Nat → Int32} {Θ : Nat → zT} {l : List zT} : (wpay v (wrow r (I, Θ, l, k))).1 0 = I 0 ∧ (wpay v (wrow r (I, Θ, l, k))).1 1 = I 1 ∧ (wpay v (wrow r (I, Θ, l, k))).1 7 = I 7 + 1 := by
  have w0 : (wrow r (I, Θ, l, k)).1 0 = I 0 := by unfold wrow; rw [wtok_I.1, wtok_I.1, wtok_I.1, wtok_I.1]
  have w1 : (wrow r (I, Θ, l, k)).1 1 = I 1 := by unfold wrow; rw [wtok_I.2.1, wtok_I.2.1, wtok_I.2.1, wtok_I.2.1]
  have w7 : (wrow r (I, Θ, l, k)).1 7 = I 7 := by unfold wrow; rw [wtok_I.2.2.2, wtok_I.2.2.2, wtok_I.2.2.2, wtok_I.2.2.2]
  generalize wrow r (I, Θ, l, k) = s at w0 w1 w7
  have hi : (inc s.1 s.2.1) 0 = s.1 0 ∧ (inc s.1 s.2.1) 1 = s.1 1 := by unfold inc; split <;> exact ⟨rfl, rfl⟩
  exact ⟨hi.1.trans w0, hi.2.trans w1, by rw [← w7]; rfl⟩
