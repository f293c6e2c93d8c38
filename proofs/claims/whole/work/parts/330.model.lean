theorem w_shr : ∀ w, w < 256 → ∀ j, j < 8 → ((nI w >>> (nI j &&& 31)) &&& 1 = 1 ↔ w.testBit j = true) := by decide +kernel
theorem w_shl : ∀ w, w < 256 → ∀ j, j < 9 → (nI w <<< (nI j &&& 31)) &&& 255 = nI ((w * 2 ^ j) % 256) := by decide +kernel
theorem w_or : ∀ w, w < 256 → ∀ j, j < 8 → nI w ||| ((1 : Int32) <<< (nI j &&& 31)) = nI (w ||| 2 ^ j) := by decide +kernel
theorem w_b1 : ∀ w, w < 256 → ∀ v, v < 9 → ∀ j, j < 8 → ((((w * 2 ^ v) % 256) ||| 2 ^ 0).testBit j = true ↔ j = 0 ∨ (v ≤ j ∧ w.testBit (j - v) = true)) := by decide +kernel
theorem w_b2 : ∀ w, w < 256 → ∀ i, i < 8 → ∀ j, j < 8 → ((w ||| 2 ^ i).testBit j = true ↔ j = i ∨ w.testBit j = true) := by decide +kernel
theorem w_b3 : ∀ w, w < 256 → ∀ i, i < 8 → w ||| 2 ^ i < 256 := by decide +kernel
theorem nI_sub {a b : Nat} (h : b ≤ a) (ha : a < 2 ^ 30) : nI a - nI b = nI (a - b) := by
  apply i32_inj
  rw [pk_sub_toInt (by omega) (by omega), nI_toInt (by omega)]
  omega
theorem wnd_mk {w t : Nat} {K : Nat → Int32} (hw : w < 256) (ht : t < 60) (h1 : ∀ j, t < j → K j = 0) (h2 : ∀ j, j < 8 → j ≤ t → (w.testBit j = true ↔ K (t - j) ≠ 0)) : wnd (nI w) (nI t) K := by
  refine ⟨⟨w, hw, rfl⟩, Or.inr ⟨t, ht, rfl, h1, ?_⟩⟩
  rw [nI_clamp (by omega)]
  exact h2
theorem wn_10 : ¬ (1 : Int32) = 0 := by decide
/-- a counter above the greatest -/
theorem wnd_new {W top : Int32} {K : Nat → Int32} {c : Nat} (h : wnd W top K) (hc : c < 60) (hgt : ¬ nI c ≤ top) : K c = 0 ∧ ¬ nI c ≤ top - 8 ∧
    (nI c - top ≤ 8 → wnd (((W <<< ((nI c - top) &&& 31)) &&& 255) ||| ((1 : Int32) <<< ((nI c - nI c) &&& 31))) (nI c) (upd K c 1)) ∧
    (¬ nI c - top ≤ 8 → wnd ((0 : Int32) ||| ((1 : Int32) <<< ((nI c - nI c) &&& 31))) (nI c) (upd K c 1)) := by
  obtain ⟨⟨w, hw, rfl⟩, h⟩ := h
  have e0 : nI c - nI c = nI 0 := by rw [nI_sub (Nat.le_refl _) (by omega), Nat.sub_self]
  rw [e0]
  rcases h with ⟨rfl, hW, hK⟩ | ⟨t, ht, rfl, hK, hb⟩
  · have hw0 : w = 0 := nI_inj (a := w) (b := 0) (by omega) (by decide) hW
    subst hw0
    have e1 : nI c - -1 = nI (c + 1) := by rw [← nI_1' c, Int32.sub_neg]
    refine ⟨hK c, ?_, fun q => ?_, fun q => ?_⟩
    · rw [Int32.le_iff_toInt_le, nI_toInt (by omega), show ((-1 : Int32) - 8).toInt = -9 from by decide]
      omega
    · have h8 : c + 1 ≤ 8 := by
        rw [e1] at q
        by_cases z : c + 1 ≤ 8
        · exact z
        · exact absurd q (nI_ge (a := 8) (b := c + 1) (by omega) (by omega))
      rw [e1, w_shl 0 (by decide) (c + 1) (by omega), w_or _ (Nat.mod_lt _ (by decide)) 0 (by decide)]
      refine wnd_mk (w_b3 _ (Nat.mod_lt _ (by decide)) 0 (by decide)) hc (fun j hj => ?_) (fun j hj hjc => ?_)
      · rw [upd_n (by omega)]; exact hK j
      · rw [w_b1 0 (by decide) (c + 1) (by omega) j hj]
        by_cases z : j = 0
        · subst z
          rw [Nat.sub_zero, upd_s]
          exact ⟨fun _ => wn_10, fun _ => Or.inl rfl⟩
        · rw [upd_n (by omega), hK]
          exact ⟨fun q => by omega, fun q => absurd rfl q⟩
    · rw [show (0 : Int32) = nI 0 from rfl, w_or 0 (by decide) 0 (by decide)]
      refine wnd_mk (w_b3 _ (by decide) 0 (by decide)) hc (fun j hj => ?_) (fun j hj hjc => ?_)
      · rw [upd_n (by omega)]; exact hK j
      · rw [w_b2 0 (by decide) 0 (by decide) j hj]
        by_cases z : j = 0
        · subst z
          rw [Nat.sub_zero, upd_s]
          exact ⟨fun _ => wn_10, fun _ => Or.inl rfl⟩
        · rw [upd_n (by omega), hK, Nat.zero_testBit]
          exact ⟨fun q => q.elim (fun r => absurd r z) (fun r => by cases r), fun q => absurd rfl q⟩
  · have hct : t < c := by
      by_cases z : t < c
      · exact z
      · exact absurd (nI_le (by omega) (by omega)) hgt
    have e1 : nI c - nI t = nI (c - t) := nI_sub (by omega) (by omega)
    rw [nI_clamp (by omega)] at hb
    refine ⟨hK c hct, ?_, fun q => ?_, fun q => ?_⟩
    · rw [Int32.le_iff_toInt_le, nI_toInt (by omega), show (8 : Int32) = nI 8 from rfl, pk_sub_toInt (by omega) (by omega)]
      omega
    · have h8 : c - t ≤ 8 := by
        rw [e1] at q
        by_cases z : c - t ≤ 8
        · exact z
        · exact absurd q (nI_ge (a := 8) (b := c - t) (by omega) (by omega))
      rw [e1, w_shl w hw (c - t) (by omega), w_or _ (Nat.mod_lt _ (by decide)) 0 (by decide)]
      refine wnd_mk (w_b3 _ (Nat.mod_lt _ (by decide)) 0 (by decide)) hc (fun j hj => ?_) (fun j hj hjc => ?_)
      · rw [upd_n (by omega)]; exact hK j (by omega)
      · rw [w_b1 w hw (c - t) (by omega) j hj]
        by_cases z : j = 0
        · subst z
          rw [Nat.sub_zero, upd_s]
          exact ⟨fun _ => wn_10, fun _ => Or.inl rfl⟩
        · rw [upd_n (by omega)]
          by_cases y : c - t ≤ j
          · have := hb (j - (c - t)) (by omega) (by omega)
            rw [show t - (j - (c - t)) = c - j by omega] at this
            rw [← this]
            exact ⟨fun q => q.elim (fun r => absurd r z) (fun r => r.2), fun q => Or.inr ⟨y, q⟩⟩
          · rw [hK (c - j) (by omega)]
            exact ⟨fun q => by omega, fun q => absurd rfl q⟩
    · have h8 : 8 < c - t := by
        rw [e1] at q
        by_cases z : c - t ≤ 8
        · exact absurd (nI_le (a := c - t) (b := 8) z (by omega)) q
        · omega
      rw [show (0 : Int32) = nI 0 from rfl, w_or 0 (by decide) 0 (by decide)]
      refine wnd_mk (w_b3 _ (by decide) 0 (by decide)) hc (fun j hj => ?_) (fun j hj hjc => ?_)
      · rw [upd_n (by omega)]; exact hK j (by omega)
      · rw [w_b2 0 (by decide) 0 (by decide) j hj]
        by_cases z : j = 0
        · subst z
          rw [Nat.sub_zero, upd_s]
          exact ⟨fun _ => wn_10, fun _ => Or.inl rfl⟩
        · rw [upd_n (by omega), hK (c - j) (by omega), Nat.zero_testBit]
          exact ⟨fun q => q.elim (fun r => absurd r z) (fun r => by cases r), fun q => absurd rfl q⟩
/-- a counter not above the greatest -/
theorem wnd_old {W top : Int32} {K : Nat → Int32} {c : Nat} (h : wnd W top K) (hc : c < 60) (hle : nI c ≤ top) :
    (7 < top - nI c → nI c ≤ top - 8) ∧ (¬ 7 < top - nI c → ¬ nI c ≤ top - 8 ∧ ((W >>> ((top - nI c) &&& 31)) &&& 1 = 1 → ¬ K c = 0) ∧ (¬ (W >>> ((top - nI c) &&& 31)) &&& 1 = 1 → K c = 0 ∧
    wnd (((W <<< ((0 : Int32) &&& 31)) &&& 255) ||| ((1 : Int32) <<< ((top - nI c) &&& 31))) top (upd K c 1))) := by
  obtain ⟨⟨w, hw, rfl⟩, h⟩ := h
  rcases h with ⟨rfl, hW, hK⟩ | ⟨t, ht, rfl, hK, hb⟩
  · exfalso
    rw [Int32.le_iff_toInt_le, nI_toInt (by omega), show (-1 : Int32).toInt = -1 from by decide] at hle
    omega
  have hct : c ≤ t := by
    by_cases z : c ≤ t
    · exact z
    · exact absurd hle (nI_ge (by omega) (by omega))
  have e1 : nI t - nI c = nI (t - c) := nI_sub hct (by omega)
  have e8 : (nI t - 8).toInt = (t : Int) - 8 := pk_sub_toInt (b := 8) (by omega) (by decide)
  rw [nI_clamp (by omega)] at hb
  rw [e1]
  have h7 : (7 < nI (t - c)) ↔ 7 < t - c := by
    rw [Int32.lt_iff_toInt_lt, nI_toInt (by omega), show (7 : Int32).toInt = 7 from by decide]
    omega
  have hl : nI c ≤ nI t - 8 ↔ 7 < t - c := by
    rw [Int32.le_iff_toInt_le, nI_toInt (by omega), e8]
    omega
  rw [h7, hl]
  refine ⟨fun q => q, fun q => ⟨q, ?_⟩⟩
  have hk := hb (t - c) (by omega) (by omega)
  rw [show t - (t - c) = c by omega] at hk
  rw [w_shr w hw (t - c) (by omega), hk]
  refine ⟨fun z => z, fun z => ⟨Classical.not_not.mp z, ?_⟩⟩
  rw [show (0 : Int32) = nI 0 from rfl, w_shl w hw 0 (by decide), show w * 2 ^ 0 % 256 = w by rw [Nat.pow_zero, Nat.mul_one]; exact Nat.mod_eq_of_lt hw, w_or w hw (t - c) (by omega)]
  refine wnd_mk (w_b3 w hw _ (by omega)) ht (fun j hj => ?_) (fun j hj hjc => ?_)
  · rw [upd_n (by omega)]; exact hK j hj
  · rw [w_b2 w hw (t - c) (by omega) j hj]
    by_cases y : j = t - c
    · subst y
      rw [show t - (t - c) = c by omega, upd_s]
      exact ⟨fun _ => wn_10, fun _ => Or.inl rfl⟩
    · rw [upd_n (by omega), ← hb j hj hjc]
      exact ⟨fun q => q.elim (fun r => absurd r y) (fun r => r), fun q => Or.inr q⟩
theorem acc_sV {A : Nat → Nat → Int32} {n s : Nat} {den : Nat → zT} {v : zV} {W top : Int32} {K : Nat → Int32} (h : sV A s n den v) (hw : wnd W top K) : sV (va_up (va_up A 41 (upd (A 41) s top)) 42 (upd (A 42) s W)) s n den (va_up v.1 13 top, v.2.1, K) := by
  have tq : ∀ p, p ≠ 41 → p ≠ 42 → va_up (va_up A 41 (upd (A 41) s top)) 42 (upd (A 42) s W) p = A p := fun p h1 h2 => (va_up_lit _ _ _ _ h2).trans (va_up_lit _ _ _ _ h1)
  have ti : ∀ q, q ≠ 13 → va_up v.1 13 top q = v.1 q := fun q h1 => va_up_lit _ _ _ _ h1
  obtain ⟨⟨e25, e26, e27, e28, e29, e30⟩, ex, ey, ek, ⟨e34, e35, e36, e37, e38, e39, e40, e41⟩, ew, hI, h8⟩ := h
  refine ⟨⟨?_, ?_, ?_, ?_, ?_, ?_⟩, ?_, ?_, ?_, ⟨?_, ?_, ?_, ?_, ?_, ?_, ?_, ?_⟩, ?_, ?_, ?_⟩
  · rw [tq 25 (by decide) (by decide)]; exact e25.trans (ti 0 (by decide)).symm
  · rw [tq 26 (by decide) (by decide)]; exact e26.trans (ti 1 (by decide)).symm
  · rw [tq 27 (by decide) (by decide)]; exact e27.trans (ti 2 (by decide)).symm
  · rw [tq 28 (by decide) (by decide)]; exact e28.trans (ti 3 (by decide)).symm
  · rw [tq 29 (by decide) (by decide)]; exact e29.trans (ti 5 (by decide)).symm
  · rw [tq 30 (by decide) (by decide)]; exact e30.trans (ti 4 (by decide)).symm
  · rw [tq 31 (by decide) (by decide)]; exact ex
  · rw [tq 32 (by decide) (by decide)]; exact ey
  · rw [tq 33 (by decide) (by decide)]; exact ek
  · rw [tq 34 (by decide) (by decide)]; exact e34.trans (ti 6 (by decide)).symm
  · rw [tq 35 (by decide) (by decide)]; exact e35.trans (ti 7 (by decide)).symm
  · rw [tq 36 (by decide) (by decide)]; exact e36.trans (ti 8 (by decide)).symm
  · rw [tq 37 (by decide) (by decide)]; exact e37.trans (ti 9 (by decide)).symm
  · rw [tq 38 (by decide) (by decide)]; exact e38.trans (ti 10 (by decide)).symm
  · rw [tq 39 (by decide) (by decide)]; exact e39.trans (ti 11 (by decide)).symm
  · rw [tq 40 (by decide) (by decide)]; exact e40.trans (ti 12 (by decide)).symm
  · show va_up (va_up A 41 (upd (A 41) s top)) 42 (upd (A 42) s W) 41 s = va_up v.1 13 top 13
    simp (disch := decide) only [va_up_eq, va_up_lit]
    exact upd_s
  · show wnd (va_up (va_up A 41 (upd (A 41) s top)) 42 (upd (A 42) s W) 42 s) (va_up v.1 13 top 13) K
    rw [va_up_eq, va_up_eq, upd_s]
    exact hw
  · show iOK (va_up v.1 13 top)
    unfold iOK at hI ⊢
    rw [ti 0 (by decide), ti 1 (by decide), ti 2 (by decide), ti 3 (by decide), ti 4 (by decide), ti 5 (by decide), ti 7 (by decide)]
    exact hI
  · show va_up v.1 13 top 8 = 0 ∨ va_up v.1 13 top 8 = 1
    rw [ti 8 (by decide)]
    exact h8
