section MOF
variable {h0 : zH} {S : Nat → Int32} {A : Nat → Nat → Int32} {ns n made m : Nat} {den : Nat → zT} {G : Nat → Int32} {ps : Nat → List zT} {V : Nat → zV}
theorem MO.msg {h' : zH} {S5 : Nat → Int32} {A5 : Nat → Nat → Int32} {n5 made5 c : Nat} {den5 : Nat → zT} {l : List zT} {V' : Nat → zV} (hM : MO h0 ns n made den G m ps V S A) (hm : m < 60) (hx : exM n den n5 den5 c) (hW : MW h' (va_up S5 1 (nI (m + 1))) (va_up (va_up A5 22 (upd (A5 22) m (nI l.length))) 23 (fillF A5 m l.length)) n5 den5) (hl : l.length ≤ 3) (hB : ∀ j τ, l[j]? = some τ → ∃ t, t < n5 ∧ A5 43 j = nI t ∧ den5 t = τ) (hS2 : S5 2 = nI made5) (hmd : made5 ≤ 12) (hS3 : S5 3 = S 3) (h22 : A5 22 = A 22) (h23 : A5 23 = A 23) (h24 : A5 24 = A 24) (hV : ∀ s, s < ns → sV A5 s n5 den5 (V' s)) (hz : ∀ p t, 25 ≤ p → p ≤ 42 → ns ≤ t → t < 12 → A5 p t = 0) : MO h' ns n5 made5 den5 G (m + 1) (va_up ps m l) V' (va_up S5 1 (nI (m + 1))) (va_up (va_up A5 22 (upd (A5 22) m (nI l.length))) 23 (fillF A5 m l.length)) := by
  obtain ⟨-, ⟨-, -, s3⟩, ⟨n12, -, -⟩, g24, hr, -, -⟩ := hM
  refine ⟨hW, ⟨va_up_eq _ _ _, (va_up_lit _ _ _ _ (by decide)).trans hS2, (va_up_lit _ _ _ _ (by decide)).trans (hS3.trans s3)⟩, ⟨n12, by omega, hmd⟩, fun j hj => ?_, fun i hi => ?_, fun s hs => ?_, fun p t h1 h2 h3 h4 => ?_⟩
  · rw [va_up_lit _ _ _ _ (by decide), va_up_lit _ _ _ _ (by decide), h24]
    exact g24 j hj
  · by_cases z : i = m
    · subst z
      rw [va_up_eq]
      refine ⟨?_, hl, fun j τ hj => ?_⟩
      · rw [va_up_lit _ _ _ _ (by decide), va_up_eq]
        exact upd_s
      · obtain ⟨t, ht, e, ed⟩ := hB j τ hj
        have hjl := (List.getElem?_eq_some_iff.mp hj).1
        refine ⟨t, ht, ?_, ed⟩
        rw [va_up_eq]
        unfold fillF
        rw [if_pos (by omega), show 3 * i + j - 3 * i = j by omega]
        exact e
    · rw [va_up_lit _ _ _ _ z]
      obtain ⟨r1, r2, r3⟩ := hr i (by omega)
      refine ⟨?_, r2, fun j τ hj => ?_⟩
      · rw [va_up_lit _ _ _ _ (by decide), va_up_eq, upd_n z, h22]
        exact r1
      · obtain ⟨t, ht, e, ed⟩ := r3 j τ hj
        have hjl := (List.getElem?_eq_some_iff.mp hj).1
        refine ⟨t, Nat.lt_of_lt_of_le ht hx.1, ?_, (hx.2.2 t ht).trans ed⟩
        rw [va_up_eq]
        unfold fillF
        rw [if_neg (by omega), h23]
        exact e
  · refine (hV s hs).ext (c := 0) exM.rf (fun p h1 h2 => ?_)
    rw [va_up_lit _ _ _ _ (by omega), va_up_lit _ _ _ _ (by omega)]
  · rw [va_up_lit _ _ _ _ (by omega), va_up_lit _ _ _ _ (by omega)]
    exact hz p t h1 h2 h3 h4
def wrM (h0 : zH) (ns n made : Nat) (den : Nat → zT) (G : Nat → Int32) (m : Nat) (ps : Nat → List zT) (V : Nat → zV) (i pay : Int32) : zP := fun r h' =>
  (r = some (.int (-1)) ∧ h' = h0 ∧ ∀ s, s < ns → i ≠ nI s) ∨ ∃ s, s < ns ∧ i = nI s ∧ (
    (r = some (.int (-2)) ∧ h' = h0 ∧ ¬ (V s).1 8 = 0)
    ∨ (r = some (.int (-3)) ∧ h' = h0 ∧ (V s).1 8 = 0 ∧ ¬ myT (V s).1)
    ∨ (r = some (.int (-4)) ∧ h' = h0 ∧ (V s).1 8 = 0 ∧ myT (V s).1 ∧ m = 60)
    ∨ (r = some (.int (nI m)) ∧ (V s).1 8 = 0 ∧ myT (V s).1 ∧ m < 60 ∧ frN h0 h' ∧ ∃ n' den' made' S' A', exM n den n' den' 15 ∧ (wpay pay (wrow (rowI (V s).1) ((V s).1, (V s).2.1, [], 8 + made))).2.2.2 = 8 + made' ∧ MO h' ns n' made' den' G (m + 1) (va_up ps m (wpay pay (wrow (rowI (V s).1) ((V s).1, (V s).2.1, [], 8 + made))).2.2.1) (va_up V s (endI (wpay pay (wrow (rowI (V s).1) ((V s).1, (V s).2.1, [], 8 + made))).1, (wpay pay (wrow (rowI (V s).1) ((V s).1, (V s).2.1, [], 8 + made))).2.1, (V s).2.2)) S' A'))
theorem wtQ.up {h1 h' : zH} {S1 : Nat → Int32} {A1 : Nat → Nat → Int32} {n1 s c c' e : Nat} {den1 : Nat → zT} {w : zW} (h : wtQ h1 S1 A1 n1 den1 s c' w h') (hx : exM n den n1 den1 c) (h13 : S1 1 = S 1 ∧ S1 3 = S 3) (hA : ∀ p, 20 < p → p < 43 → A1 p = A p) (hf : frN h0 h1) (he : c + c' ≤ e) : wtQ h0 S A n den s e w h' := by
  obtain ⟨n', den', S', A', g1, g2, g3, g4, g5, g6, g7⟩ := h
  have hx' := hx.tr g4
  exact ⟨n', den', S', A', g1, g2, g3, ⟨hx'.1, by have := hx'.2.1; omega, hx'.2.2⟩, ⟨g5.1.trans h13.1, g5.2.trans h13.2⟩, fun p h1 h2 => (g6 p h1 h2).trans (hA p h1 h2), hf.tr g7⟩
set_option maxHeartbeats 8000000 in
theorem write_loop {s : Nat} {I : Nat → Int32} {Θ : Nat → zT} (sc : Nat × (Nat → Int32)) (d : Nat) (hV : MV h0 S A n den s I Θ) (hB : pB S A n den []) (he : made ≤ 12) (h2 : S 2 = nI made) (hn : n + 12 ≤ 1200) {p st : Nat} (e25 : A 25 s = nI p) (e35 : A 35 s = nI st) (hr : p * 3 + st ≤ 4) (hst : st < 3) (hk1 : p * 3 + st ≠ 2 → made < 12) {P : zP} (l2 l4 l5 : Option Value)
    (hk : ∀ h' l4 l5, wtQ h0 S A n den s 12 (wrow (p * 3 + st) (I, Θ, [], 8 + made)) h' → (wrow (p * 3 + st) (I, Θ, [], 8 + made)).2.2.1.length < 3 → zS (zMt zTab sc (d + 5), (0, 0), sc) k_Mo_write P (65, [some (.ref 15), some (.int (nI s)), l2, some (.int (nI 4)), l4, l5], [], h', 0, 0)) :
    zS (zMt zTab sc (d + 5), (0, 0), sc) k_Mo_write P (65, [some (.ref 15), some (.int (nI s)), l2, some (.int (nI 0)), l4, l5], [], h0, 0, 0) := by
  have hno1 : ∀ r i, r ≤ 4 → 0 < i → i < 4 → ¬ z_tok (r * 4 + i) = 1 := by
    intro r i h1 h2 h3
    have : ∀ r, r < 5 → ∀ i, i < 4 → 0 < i → ¬ z_tok (r * 4 + i) = 1 := by decide
    exact this r (by omega) i h3 h2
  have hno2 : ¬ z_tok (2 * 4 + 0) = 1 := by decide
  have hsum : ∀ r, r ≤ 4 → isES (z_tok (r * 4 + 0)) + isES (z_tok (r * 4 + 1)) + isES (z_tok (r * 4 + 2)) + isES (z_tok (r * 4 + 3)) < 3 := by
    intro r h1
    have : ∀ r, r < 5 → isES (z_tok (r * 4 + 0)) + isES (z_tok (r * 4 + 1)) + isES (z_tok (r * 4 + 2)) + isES (z_tok (r * 4 + 3)) < 3 := by decide
    exact this r (by omega)
  have hs := hsum (p * 3 + st) hr
  have t1 : (wtok (z_tok ((p * 3 + st) * 4 + 0)) (I, Θ, [], 8 + made)).2.2.1.length = 0 + isES (z_tok ((p * 3 + st) * 4 + 0)) := wtok_len
  refine write_step sc d hV hB he h2 (by omega) (i := 0) (by decide) e25 e35 hr hst (by show 0 + _ ≤ 3; omega) (fun z => hk1 (fun q => hno2 (by rw [q] at z; exact z))) l2 l4 l5 (fun h1 l4 l5 hq => ?_)
  generalize hw1 : wtok (z_tok ((p * 3 + st) * 4 + 0)) (I, Θ, [], 8 + made) = w1 at hq t1
  obtain ⟨n1, den1, S1, A1, g1, g2, ⟨e1, he1, hk1', hs1⟩, hx1, h131, hA1, hf1⟩ := hq
  have m1 : n1 ≤ n + 3 := hx1.2.1
  have t2 : (wtok (z_tok ((p * 3 + st) * 4 + 1)) w1).2.2.1.length = w1.2.2.1.length + isES (z_tok ((p * 3 + st) * 4 + 1)) := wtok_len
  refine write_step sc d g1 g2 he1 hs1 (by omega) (i := 1) (by decide) (by rw [hA1 25 (by decide) (by decide)]; exact e25) (by rw [hA1 35 (by decide) (by decide)]; exact e35) hr hst (by omega) (fun z => absurd z (hno1 _ 1 hr (by decide) (by decide))) l2 l4 l5 (fun h2 l4 l5 hq => ?_)
  have ew1 : (w1.1, w1.2.1, w1.2.2.1, 8 + e1) = w1 := by rw [← hk1']
  rw [ew1] at hq
  have hq := hq.up hx1 h131 hA1 hf1 (e := 6) (by decide)
  generalize hw2 : wtok (z_tok ((p * 3 + st) * 4 + 1)) w1 = w2 at hq t2
  obtain ⟨n2, den2, S2, A2, g1, g2, ⟨e2, he2, hk2', hs2⟩, hx2, h132, hA2, hf2⟩ := hq
  have m2 : n2 ≤ n + 6 := hx2.2.1
  have t3 : (wtok (z_tok ((p * 3 + st) * 4 + 2)) w2).2.2.1.length = w2.2.2.1.length + isES (z_tok ((p * 3 + st) * 4 + 2)) := wtok_len
  refine write_step sc d g1 g2 he2 hs2 (by omega) (i := 2) (by decide) (by rw [hA2 25 (by decide) (by decide)]; exact e25) (by rw [hA2 35 (by decide) (by decide)]; exact e35) hr hst (by omega) (fun z => absurd z (hno1 _ 2 hr (by decide) (by decide))) l2 l4 l5 (fun h3 l4 l5 hq => ?_)
  have ew2 : (w2.1, w2.2.1, w2.2.2.1, 8 + e2) = w2 := by rw [← hk2']
  rw [ew2] at hq
  have hq := hq.up hx2 h132 hA2 hf2 (e := 9) (by decide)
  generalize hw3 : wtok (z_tok ((p * 3 + st) * 4 + 2)) w2 = w3 at hq t3
  obtain ⟨n3, den3, S3, A3, g1, g2, ⟨e3, he3, hk3', hs3⟩, hx3, h133, hA3, hf3⟩ := hq
  have m3 : n3 ≤ n + 9 := hx3.2.1
  have t4 : (wtok (z_tok ((p * 3 + st) * 4 + 3)) w3).2.2.1.length = w3.2.2.1.length + isES (z_tok ((p * 3 + st) * 4 + 3)) := wtok_len
  refine write_step sc d g1 g2 he3 hs3 (by omega) (i := 3) (by decide) (by rw [hA3 25 (by decide) (by decide)]; exact e25) (by rw [hA3 35 (by decide) (by decide)]; exact e35) hr hst (by omega) (fun z => absurd z (hno1 _ 3 hr (by decide) (by decide))) l2 l4 l5 (fun h4 l4 l5 hq => ?_)
  have ew3 : (w3.1, w3.2.1, w3.2.2.1, 8 + e3) = w3 := by rw [← hk3']
  rw [ew3] at hq
  have hq := hq.up hx3 h133 hA3 hf3 (e := 12) (by decide)
  have hrw : wrow (p * 3 + st) (I, Θ, [], 8 + made) = wtok (z_tok ((p * 3 + st) * 4 + 3)) w3 := by
    unfold wrow
    rw [hw1, hw2, hw3]
  refine hk h4 l4 l5 (by rw [hrw]; exact hq) (by rw [hrw]; omega)
end MOF
