theorem tick_sV {A : Nat → Nat → Int32} {n s : Nat} {den : Nat → zT} {v : zV} {c : Int32} (h : sV A s n den v) (hc : c = 0 ∨ c = 1) : sV (va_up (va_up A 37 (upd (A 37) s (v.1 9 + 1))) 36 (upd (A 36) s c)) s n den (va_up (va_up v.1 9 (v.1 9 + 1)) 8 c, v.2) := by
  have tq : ∀ p, p ≠ 36 → p ≠ 37 → va_up (va_up A 37 (upd (A 37) s (v.1 9 + 1))) 36 (upd (A 36) s c) p = A p := fun p h1 h2 => (va_up_lit _ _ _ _ h1).trans (va_up_lit _ _ _ _ h2)
  have ti : ∀ q, q ≠ 8 → q ≠ 9 → va_up (va_up v.1 9 (v.1 9 + 1)) 8 c q = v.1 q := fun q h1 h2 => (va_up_lit _ _ _ _ h1).trans (va_up_lit _ _ _ _ h2)
  obtain ⟨⟨e25, e26, e27, e28, e29, e30⟩, ex, ey, ek, ⟨e34, e35, e36, e37, e38, e39, e40, e41⟩, ew, hI, h8⟩ := h
  refine ⟨⟨?_, ?_, ?_, ?_, ?_, ?_⟩, ?_, ?_, ?_, ⟨?_, ?_, ?_, ?_, ?_, ?_, ?_, ?_⟩, ?_, ?_, ?_⟩
  · rw [tq 25 (by decide) (by decide)]; exact e25.trans (ti 0 (by decide) (by decide)).symm
  · rw [tq 26 (by decide) (by decide)]; exact e26.trans (ti 1 (by decide) (by decide)).symm
  · rw [tq 27 (by decide) (by decide)]; exact e27.trans (ti 2 (by decide) (by decide)).symm
  · rw [tq 28 (by decide) (by decide)]; exact e28.trans (ti 3 (by decide) (by decide)).symm
  · rw [tq 29 (by decide) (by decide)]; exact e29.trans (ti 5 (by decide) (by decide)).symm
  · rw [tq 30 (by decide) (by decide)]; exact e30.trans (ti 4 (by decide) (by decide)).symm
  · rw [tq 31 (by decide) (by decide)]; exact ex
  · rw [tq 32 (by decide) (by decide)]; exact ey
  · rw [tq 33 (by decide) (by decide)]; exact ek
  · rw [tq 34 (by decide) (by decide)]; exact e34.trans (ti 6 (by decide) (by decide)).symm
  · rw [tq 35 (by decide) (by decide)]; exact e35.trans (ti 7 (by decide) (by decide)).symm
  · show va_up (va_up A 37 (upd (A 37) s (v.1 9 + 1))) 36 (upd (A 36) s c) 36 s = va_up (va_up v.1 9 (v.1 9 + 1)) 8 c 8
    rw [va_up_eq, va_up_eq]
    exact upd_s
  · show va_up (va_up A 37 (upd (A 37) s (v.1 9 + 1))) 36 (upd (A 36) s c) 37 s = va_up (va_up v.1 9 (v.1 9 + 1)) 8 c 9
    simp (disch := decide) only [va_up_eq, va_up_lit]
    exact upd_s
  · rw [tq 38 (by decide) (by decide)]; exact e38.trans (ti 10 (by decide) (by decide)).symm
  · rw [tq 39 (by decide) (by decide)]; exact e39.trans (ti 11 (by decide) (by decide)).symm
  · rw [tq 40 (by decide) (by decide)]; exact e40.trans (ti 12 (by decide) (by decide)).symm
  · rw [tq 41 (by decide) (by decide)]; exact e41.trans (ti 13 (by decide) (by decide)).symm
  · rw [tq 42 (by decide) (by decide)]
    show wnd _ (va_up (va_up v.1 9 (v.1 9 + 1)) 8 c 13) v.2.2
    rw [ti 13 (by decide) (by decide)]
    exact ew
  · show iOK (va_up (va_up v.1 9 (v.1 9 + 1)) 8 c)
    unfold iOK at hI ⊢
    rw [ti 0 (by decide) (by decide), ti 1 (by decide) (by decide), ti 2 (by decide) (by decide), ti 3 (by decide) (by decide), ti 4 (by decide) (by decide), ti 5 (by decide) (by decide), ti 7 (by decide) (by decide)]
    exact hI
  · show va_up (va_up v.1 9 (v.1 9 + 1)) 8 c 8 = 0 ∨ va_up (va_up v.1 9 (v.1 9 + 1)) 8 c 8 = 1
    rw [va_up_eq]
    exact hc
