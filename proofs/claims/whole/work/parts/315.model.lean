theorem kp_ne {S : Nat → Int32} {A : Nat → Nat → Int32} {s t p : Nat} {x y : Int32} (ht : ¬ t = s) : kpA S A s x y p t = A p t := by
  unfold kpA va_up
  (repeat' split) <;> first | (rename_i z; subst z; exact upd_n ht) | rfl
theorem kp_out {S : Nat → Int32} {A : Nat → Nat → Int32} {s p : Nat} {x y : Int32} (hp : p < 28 ∨ 37 < p) : kpA S A s x y p = A p := by
  unfold kpA
  simp (disch := omega) only [va_up_lit]
theorem sV.ext {A A' : Nat → Nat → Int32} {s n n' c : Nat} {den den' : Nat → zT} {v : zV} (h : sV A s n den v) (hx : exM n den n' den' c) (hA : ∀ p, 25 ≤ p → p ≤ 42 → A' p s = A p s) : sV A' s n' den' v := by
  obtain ⟨⟨e25, e26, e27, e28, e29, e30⟩, ⟨x, hx1, hx2, hx3⟩, ⟨y, hy1, hy2, hy3⟩, ek, ⟨e34, e35, e36, e37, e38, e39, e40, e41⟩, ew, hI, h8⟩ := h
  refine ⟨⟨(hA 25 (by decide) (by decide)).trans e25, (hA 26 (by decide) (by decide)).trans e26, (hA 27 (by decide) (by decide)).trans e27, (hA 28 (by decide) (by decide)).trans e28, (hA 29 (by decide) (by decide)).trans e29, (hA 30 (by decide) (by decide)).trans e30⟩, ⟨x, Nat.lt_of_lt_of_le hx1 hx.1, (hA 31 (by decide) (by decide)).trans hx2, (hx.2.2 x hx1).trans hx3⟩, ⟨y, Nat.lt_of_lt_of_le hy1 hx.1, (hA 32 (by decide) (by decide)).trans hy2, (hx.2.2 y hy1).trans hy3⟩, by rw [hA 33 (by decide) (by decide)]; exact ek.ext hx, ⟨(hA 34 (by decide) (by decide)).trans e34, (hA 35 (by decide) (by decide)).trans e35, (hA 36 (by decide) (by decide)).trans e36, (hA 37 (by decide) (by decide)).trans e37, (hA 38 (by decide) (by decide)).trans e38, (hA 39 (by decide) (by decide)).trans e39, (hA 40 (by decide) (by decide)).trans e40, (hA 41 (by decide) (by decide)).trans e41⟩, by rw [hA 42 (by decide) (by decide)]; exact ew, hI, h8⟩
/-- what keep leaves of the session -/
theorem keep_sV {h : zH} {S : Nat → Int32} {A A0 : Nat → Nat → Int32} {s n n0 : Nat} {den den0 : Nat → zT} {I : Nat → Int32} {Θ : Nat → zT} {v : zV} (hV : MV h S A n den s I Θ) (hv : sV A0 s n0 den0 v) (hA : ∀ p, 20 < p → p < 43 → A p = A0 p) (ht : tl8 v.1 I) (h7 : I 7 < lim I) : sV (kpA S A s (I 7 + 1) (if I 7 + 1 = lim I then 0 else A 37 s)) s n den (endI (va_up I 7 (I 7 + 1)), Θ, v.2.2) := by
  obtain ⟨-, -, -, ⟨x, hx1, hx2, hx3⟩, ⟨y, hy1, hy2, hy3⟩, hk, ⟨z8, z9, z10, z11⟩, ⟨a25, a26, a27, a35⟩, hI⟩ := hV
  obtain ⟨-, -, -, -, ⟨-, -, e36, e37, e38, e39, e40, e41⟩, ew, -, h8⟩ := hv
  have hl : lim (va_up I 7 (I 7 + 1)) = lim I := by unfold lim; rw [va_up_lit _ _ _ _ (by decide)]
  obtain ⟨p, st, p0, p7, pr, ps3, -⟩ := row_of hI h7
  have hlt : I 7 + 1 = lim I ↔ ¬ I 7 + 1 < lim I := by
    unfold lim at h7 ⊢
    rw [p0, p7] at h7 ⊢
    rcases (show (p = 0 ∧ st = 0) ∨ (p = 0 ∧ st = 1) ∨ (p = 0 ∧ st = 2) ∨ (p = 1 ∧ st = 0) ∨ (p = 1 ∧ st = 1) by omega) with ⟨rfl, rfl⟩ | ⟨rfl, rfl⟩ | ⟨rfl, rfl⟩ | ⟨rfl, rfl⟩ | ⟨rfl, rfl⟩ <;> decide
  have hE : ∀ q, q ≠ 7 → q ≠ 9 → endI (va_up I 7 (I 7 + 1)) q = I q := by
    intro q h1 h2
    unfold endI
    split
    · exact va_up_lit _ _ _ _ h1
    · rw [va_up_lit _ _ _ _ h2, va_up_lit _ _ _ _ h1]
  have hE7 : endI (va_up I 7 (I 7 + 1)) 7 = I 7 + 1 := by
    unfold endI
    split
    · exact va_up_eq _ _ _
    · rw [va_up_lit _ _ _ _ (by decide), va_up_eq]
  have hE9 : endI (va_up I 7 (I 7 + 1)) 9 = (if I 7 + 1 = lim I then 0 else I 9) := by
    unfold endI
    rw [va_up_eq, hl]
    by_cases z : I 7 + 1 < lim I
    · rw [if_pos z, if_neg (fun q => hlt.mp q z), va_up_lit _ _ _ _ (by decide)]
    · rw [if_neg z, if_pos (hlt.mpr z), va_up_eq]
  have k31 : ∀ {x y : Int32}, kpA S A s x y 31 s = S 5 := by intro x y; unfold kpA; simp (disch := decide) only [va_up_eq, va_up_lit]; exact upd_s
  have k32 : ∀ {x y : Int32}, kpA S A s x y 32 s = S 6 := by intro x y; unfold kpA; simp (disch := decide) only [va_up_eq, va_up_lit]; exact upd_s
  have k33 : ∀ {x y : Int32}, kpA S A s x y 33 s = S 7 := by intro x y; unfold kpA; simp (disch := decide) only [va_up_eq, va_up_lit]; exact upd_s
  have k34 : ∀ {x y : Int32}, kpA S A s x y 34 s = S 8 := by intro x y; unfold kpA; simp (disch := decide) only [va_up_eq, va_up_lit]; exact upd_s
  have k28 : ∀ {x y : Int32}, kpA S A s x y 28 s = S 9 := by intro x y; unfold kpA; simp (disch := decide) only [va_up_eq, va_up_lit]; exact upd_s
  have k29 : ∀ {x y : Int32}, kpA S A s x y 29 s = S 10 := by intro x y; unfold kpA; simp (disch := decide) only [va_up_eq, va_up_lit]; exact upd_s
  have k30 : ∀ {x y : Int32}, kpA S A s x y 30 s = S 11 := by intro x y; unfold kpA; simp (disch := decide) only [va_up_eq, va_up_lit]; exact upd_s
  have k35 : ∀ {x y : Int32}, kpA S A s x y 35 s = x := by intro x y; unfold kpA; simp (disch := decide) only [va_up_eq, va_up_lit]; exact upd_s
  have k36 : ∀ {x y : Int32}, kpA S A s x y 36 s = A 36 s := by intro x y; unfold kpA; simp (disch := decide) only [va_up_lit]
  have k37 : ∀ {x y : Int32}, kpA S A s x y 37 s = y := by intro x y; unfold kpA; simp (disch := decide) only [va_up_eq]; exact upd_s
  refine ⟨⟨?_, ?_, ?_, ?_, ?_, ?_⟩, ⟨x, hx1, k31.trans hx2, hx3⟩, ⟨y, hy1, k32.trans hy2, hy3⟩, by rw [k33]; exact hk, ⟨?_, ?_, ?_, ?_, ?_, ?_, ?_, ?_⟩, ?_, ?_, ?_⟩
  · rw [kp_out (by omega)]; exact a25.trans (hE 0 (by decide) (by decide)).symm
  · rw [kp_out (by omega)]; exact a26.trans (hE 1 (by decide) (by decide)).symm
  · rw [kp_out (by omega)]; exact a27.trans (hE 2 (by decide) (by decide)).symm
  · rw [k28]; exact z9.trans (hE 3 (by decide) (by decide)).symm
  · rw [k29]; exact z10.trans (hE 5 (by decide) (by decide)).symm
  · rw [k30]; exact z11.trans (hE 4 (by decide) (by decide)).symm
  · rw [k34]; exact z8.trans (hE 6 (by decide) (by decide)).symm
  · rw [k35]; exact hE7.symm
  · rw [k36, hA 36 (by decide) (by decide), e36]; exact (ht 8 (by decide)).symm.trans (hE 8 (by decide) (by decide)).symm
  · rw [k37]
    show _ = endI (va_up I 7 (I 7 + 1)) 9
    rw [hE9, hA 37 (by decide) (by decide), e37, ht 9 (by decide)]
  · rw [kp_out (by omega), hA 38 (by decide) (by decide), e38]; exact (ht 10 (by decide)).symm.trans (hE 10 (by decide) (by decide)).symm
  · rw [kp_out (by omega), hA 39 (by decide) (by decide), e39]; exact (ht 11 (by decide)).symm.trans (hE 11 (by decide) (by decide)).symm
  · rw [kp_out (by omega), hA 40 (by decide) (by decide), e40]; exact (ht 12 (by decide)).symm.trans (hE 12 (by decide) (by decide)).symm
  · rw [kp_out (by omega), hA 41 (by decide) (by decide), e41]; exact (ht 13 (by decide)).symm.trans (hE 13 (by decide) (by decide)).symm
  · rw [kp_out (by omega), hA 42 (by decide) (by decide)]
    show wnd _ (endI _ 13) v.2.2
    rw [hE 13 (by decide) (by decide), ht 13 (by decide)]
    exact ew
  · obtain ⟨i0, i1, i2, i3, i4, i5, -⟩ := hI
    show iOK (endI _)
    refine ⟨?_, ?_, ?_, ?_, ?_, ?_, ?_⟩
    · rw [hE 0 (by decide) (by decide)]; exact i0
    · rw [hE 1 (by decide) (by decide)]; exact i1
    · rw [hE 2 (by decide) (by decide)]; exact i2
    · rw [hE 3 (by decide) (by decide)]; exact i3
    · rw [hE 4 (by decide) (by decide)]; exact i4
    · rw [hE 5 (by decide) (by decide)]; exact i5
    · rw [hE7, p7, nI_1']; exact ⟨st + 1, by omega, rfl⟩
  · show endI _ 8 = 0 ∨ endI _ 8 = 1
    rw [hE 8 (by decide) (by decide), ht 8 (by decide)]; exact h8
