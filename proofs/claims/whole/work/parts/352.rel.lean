section RLJ
variable {h h1 h' : zH} {ns n1 n2 made m : Nat} {den1 den2 : Nat → zT} {G : Nat → Int32} {ps : Nat → List zT} {V : Nat → zV} {S : Nat → Int32} {A : Nat → Nat → Int32} {D : Nat → zD} {r : Option Value}
def qP (ns : Nat) (i : Int32) (F : Nat → Int32) (c : Int32) (h0 : zH) : zP := fun r h' => h' = h0 ∧ ((∃ s, s < ns ∧ i = nI s ∧ r = some (.int (F s))) ∨ (r = some (.int c) ∧ ∀ s, s < ns → i ≠ nI s))
theorem j_qP {sc : Nat × (Nat → Int32)} {mi k : Nat} {as : List Value} {i c : Int32} {F : Nat → Int32} (hR : RLe h) (hf : ∃ fs, h.1 15 = .inr (6, fs)) (hk : k ≤ 60) (hq : qP k i F c h r h1) (hz : zMt zTab sc 8 mi (.ref 15 :: as) h 0 0 (qP k i F c h)) : nxt sc mi as r h1 := by
  obtain ⟨rfl, ⟨s, hs, rfl, rfl⟩ | ⟨rfl, hno⟩⟩ := hq
  · refine ⟨F s, _, rfl, hf, hz, ?_⟩
    rintro r2 h2 ⟨rfl, ⟨s', hs', e, rfl⟩ | ⟨rfl, hno⟩⟩
    · have := nI_inj (by omega) (by omega) e
      subst this
      exact ⟨rfl, hR⟩
    · exact absurd rfl (hno s hs)
  · refine ⟨c, _, rfl, hf, hz, ?_⟩
    rintro r2 h2 ⟨rfl, ⟨s', hs', e, rfl⟩ | ⟨rfl, hno⟩⟩
    · exact absurd e (hno s' hs')
    · exact ⟨rfl, hR⟩
theorem j_match {sc : Nat × (Nat → Int32)} {i j : Int32} (hR : RL h ns n1 made den1 n2 den2 G m ps V S A D) (hq : h1 = h ∧ ((r = some (.int 1) ∧ ∃ s t, s < ns ∧ t < ns ∧ i = nI s ∧ j = nI t ∧ mtV (V s) (V t)) ∨ (r = some (.int 0) ∧ ((∀ s, s < ns → i ≠ nI s) ∨ (∀ t, t < ns → j ≠ nI t) ∨ ∃ s t, s < ns ∧ t < ns ∧ i = nI s ∧ j = nI t ∧ ¬ mtV (V s) (V t))))) : nxt sc 119 [.int i, .int j] r h1 := by
  have hb := hR.bd
  obtain ⟨rfl, hq⟩ := hq
  have hz := c_Mmatch sc 5 hR.2.1 hR.st i j
  have yes : (∃ s t, s < ns ∧ t < ns ∧ i = nI s ∧ j = nI t ∧ mtV (V s) (V t)) → ((∀ s, s < ns → i ≠ nI s) ∨ (∀ t, t < ns → j ≠ nI t) ∨ ∃ s t, s < ns ∧ t < ns ∧ i = nI s ∧ j = nI t ∧ ¬ mtV (V s) (V t)) → False := by
    rintro ⟨s, t, hs, ht, rfl, rfl, hm⟩ (h | h | ⟨s', t', hs', ht', e, e', hm'⟩)
    · exact h s hs rfl
    · exact h t ht rfl
    · have := nI_inj (by omega) (by omega) e
      have := nI_inj (by omega) (by omega) e'
      subst_vars
      exact hm' hm
  rcases hq with ⟨rfl, hx⟩ | ⟨rfl, hx⟩
  · refine ⟨1, _, rfl, hR.f, hz, ?_⟩
    rintro r2 h2 ⟨rfl, ⟨rfl, hy⟩ | ⟨rfl, hy⟩⟩
    · exact ⟨rfl, hR.e⟩
    · exact (yes hx hy).elim
  · refine ⟨0, _, rfl, hR.f, hz, ?_⟩
    rintro r2 h2 ⟨rfl, ⟨rfl, hy⟩ | ⟨rfl, hy⟩⟩
    · exact (yes hy hx).elim
    · exact ⟨rfl, hR.e⟩
theorem inP_u {i j : Int32} {a b a' b' : Nat} (hl : ∀ a, (ps a).length ≤ 3) (hm : m ≤ 60) (h1 : inP m ps i j a b) (h2 : inP m ps i j a' b') : a = a' ∧ b = b' := by
  obtain ⟨x1, rfl, rfl, x4⟩ := h1
  obtain ⟨y1, y2, y3, y4⟩ := h2
  have z1 := nI_inj (by omega) (by omega) y2
  subst z1
  have := hl a
  exact ⟨rfl, nI_inj (by omega) (by omega) y3⟩
theorem part_in {i j : Int32} {t : Nat} (hp : partIs n1 den1 m ps i j t) : ∃ a b, inP m ps i j a b ∧ (ps a)[b]? = some (den1 t) ∧ 0 < t ∧ t ≤ n1 := by
  obtain ⟨a, b, g1, g2, g3, g4, g5, g6⟩ := hp
  exact ⟨a, b, ⟨g1, g2, g3, (List.getElem?_eq_some_iff.mp g4).1⟩, g4, g5, g6⟩
theorem noPart_in {i j : Int32} : noPart m ps i j ↔ ∀ a b, ¬ inP m ps i j a b := ⟨fun z a b w => z a b w.1 w.2.1 w.2.2.2 w.2.2.1, fun z a b w1 w2 w3 w4 => z a b ⟨w1, w2, w4, w3⟩⟩
theorem RL.l3 (hR : RL h ns n1 made den1 n2 den2 G m ps V S A D) : ∀ a, (ps a).length ≤ 3 := by
  intro a
  by_cases z : a < m
  · exact (hR.2.1.2.2.2.2.1 a z).2.1
  · rw [hR.2.2.1 a (by omega)]
    decide
theorem j_same {sc : Nat × (Nat → Int32)} {i j i' j' : Int32} (hR : RL h ns n1 made den1 n2 den2 G m ps V S A D) (hq : h1 = h ∧ ((r = some (.int 1) ∧ ∃ t, partIs n1 den1 m ps i j t ∧ partIs n1 den1 m ps i' j' t) ∨ (r = some (.int 0) ∧ (noPart m ps i j ∨ noPart m ps i' j' ∨ ∃ t u, partIs n1 den1 m ps i j t ∧ partIs n1 den1 m ps i' j' u ∧ den1 t ≠ den1 u)))) : nxt sc 124 [.int i, .int j, .int i', .int j'] r h1 := by
  have hb := hR.bd
  have hl := hR.l3
  obtain ⟨rfl, hq⟩ := hq
  have hz := c_Msame sc 5 hR.2.1 i j i' j'
  rcases hq with ⟨rfl, t, ht, ht'⟩ | ⟨rfl, hx⟩
  · refine ⟨1, _, rfl, hR.f, hz, ?_⟩
    obtain ⟨a, b, hab, e1, -⟩ := part_in ht
    obtain ⟨a', b', hab', e2, -⟩ := part_in ht'
    rintro r2 h2 ⟨rfl, ⟨rfl, hy⟩ | ⟨rfl, hy⟩⟩
    · exact ⟨rfl, hR.e⟩
    · exact absurd e2 (hy a b a' b' _ hab hab' e1)
  · refine ⟨0, _, rfl, hR.f, hz, ?_⟩
    rintro r2 h2 ⟨rfl, ⟨rfl, a, b, a', b', τ, hab, hab', e1, e2⟩ | ⟨rfl, hy⟩⟩
    · exfalso
      rcases hx with hx | hx | ⟨t, u, ht, hu, hne⟩
      · exact noPart_in.mp hx a b hab
      · exact noPart_in.mp hx a' b' hab'
      · obtain ⟨c, d, hcd, e3, -⟩ := part_in ht
        obtain ⟨c', d', hcd', e4, -⟩ := part_in hu
        obtain ⟨rfl, rfl⟩ := inP_u hl hb.2.2.2 hab hcd
        obtain ⟨rfl, rfl⟩ := inP_u hl hb.2.2.2 hab' hcd'
        have z1 := e1.symm.trans e3
        have z2 := e2.symm.trans e4
        injection z1 with z1
        injection z2 with z2
        exact hne (z1.symm.trans z2)
    · exact ⟨rfl, hR.e⟩
theorem j_open {sc : Nat × (Nat → Int32)} {i : Int32} (hR : RL h ns n1 made den1 n2 den2 G m ps V S A D) (hq : h1 = h ∧ ((∃ s y v, s < ns ∧ i = nI s ∧ ¬ (V s).1 7 < lim (V s).1 ∧ 0 < y ∧ y ≤ n1 ∧ den1 y = (V s).2.1 1 ∧ r = some (.int v) ∧ ((v = 1 ∧ ¬ hA h 7 y = 0) ∨ (v = 0 ∧ hA h 7 y = 0))) ∨ (r = some (.int 0) ∧ ((∀ s, s < ns → i ≠ nI s) ∨ ∃ s, s < ns ∧ i = nI s ∧ (V s).1 7 < lim (V s).1)))) : nxt sc 120 [.int i] r h1 := by
  have hb := hR.bd
  obtain ⟨rfl, hq⟩ := hq
  have hz := c_Mopen sc 5 hR.2.1 hR.st i
  have re : ∀ h2, frN h1 h2 → (∃ A', MO h2 ns n2 made den2 G m ps V S A') → RLe h2 := fun h2 hf ⟨A', hM⟩ => ⟨ns, n1, made, den1, n2, den2, G, m, ps, V, S, A', D, hR.1.frN hf, hM, hR.2.2⟩
  rcases hq with ⟨s, y, v, hs, rfl, hd, y1, y2, y3, rfl, hv⟩ | ⟨rfl, hno⟩
  · refine ⟨v, _, rfl, hR.f, hz, ?_⟩
    rintro r2 h2 ⟨hf, hM2, ⟨s', u, K, w, hs', e, -, u1, u2, hK, rfl, hw⟩ | ⟨rfl, hno⟩⟩
    · have := nI_inj (by omega) (by omega) e
      subst this
      have hk := known_eq hR.1.2.2.2.1 hK y u y1 y2 u1 (y3.trans u2.symm)
      refine ⟨?_, re h2 hf hM2⟩
      rcases hv with ⟨rfl, hv⟩ | ⟨rfl, hv⟩ <;> rcases hw with ⟨rfl, hw⟩ | ⟨rfl, hw⟩
      · rfl
      · exact absurd (hk.mpr hw) hv
      · exact absurd (hk.mp hv) hw
      · rfl
    · exfalso
      rcases hno with hno | ⟨s', hs', e, h7⟩
      · exact hno s hs rfl
      · have := nI_inj (by omega) (by omega) e
        subst this
        exact hd h7
  · refine ⟨0, _, rfl, hR.f, hz, ?_⟩
    rintro r2 h2 ⟨hf, hM2, ⟨s', u, K, w, hs', e, hd, u1, u2, hK, rfl, hw⟩ | ⟨rfl, -⟩⟩
    · exfalso
      rcases hno with hno | ⟨s, hs, e', h7⟩
      · exact hno s' hs' e
      · have := nI_inj (by omega) (by omega) (e.symm.trans e')
        subst this
        exact hd h7
    · exact ⟨rfl, re h2 hf hM2⟩
theorem RL.kd (hR : RL h ns n1 made den1 n2 den2 G m ps V S A D) : ∀ (a b : Nat) τ, a < m → (ps a)[b]? = some τ → tkd τ = 1 ∨ tkd τ = 2 ∨ tkd τ = 8 := by
  intro a b τ _ hb
  rcases hR.2.2.2.1 a τ (List.mem_of_getElem? hb) with h | h | ⟨c, X, Y, Z, rfl, -⟩
  · exact Or.inl h
  · exact Or.inr (Or.inl h)
  · exact Or.inr (Or.inr rfl)
theorem RL.kz (hR : RL h ns n1 made den1 n2 den2 G m ps V S A D) : ∀ (a b : Nat) c X Y Z, a < m → (ps a)[b]? = some (nd 8 c 0 X Y Z) → tkd Z = 1 ∨ tkd Z = 2 := by
  intro a b c X Y Z _ hb
  rcases hR.2.2.2.1 a _ (List.mem_of_getElem? hb) with h | h | ⟨c', X', Y', Z', e, -, hZ⟩
  · exact absurd (show (8 : Int) = 1 from h) (by decide)
  · exact absurd (show (8 : Int) = 2 from h) (by decide)
  · rw [(nd_inj e).2.2.2.2.2]; exact hZ
theorem RL.k60 (hR : RL h ns n1 made den1 n2 den2 G m ps V S A D) : ∀ a, a < m → ∀ (c : Int32) X Y Z, (ps a)[1]? = some (nd 8 c.toInt 0 X Y Z) → c.toInt < 60 := by
  intro a _ c X Y Z hb
  rcases hR.2.2.2.1 a _ (List.mem_of_getElem? hb) with h | h | ⟨c', X', Y', Z', e, h60, -⟩
  · exact absurd (show (8 : Int) = 1 from h) (by decide)
  · exact absurd (show (8 : Int) = 2 from h) (by decide)
  · rw [(nd_inj e).2.1]; exact h60
theorem j_sees {sc : Nat × (Nat → Int32)} {i j : Int32} (hR : RL h ns n1 made den1 n2 den2 G m ps V S A D) (hq : h1 = h ∧ ((∃ t v, partIs n1 den1 m ps i j t ∧ r = some (.int v) ∧ seeV h n1 den1 t v) ∨ (r = some (.int (-1)) ∧ noPart m ps i j))) : nxt sc 122 [.int i, .int j] r h1 := by
  have hb := hR.bd
  obtain ⟨rfl, hq⟩ := hq
  have hz := c_Msees sc 5 hR.2.1 hR.kd i j
  have re : ∀ h2, frN h1 h2 → (∃ A', MO h2 ns n2 made den2 G m ps V S A') → RLe h2 := fun h2 hf ⟨A', hM⟩ => ⟨ns, n1, made, den1, n2, den2, G, m, ps, V, S, A', D, hR.1.frN hf, hM, hR.2.2⟩
  rcases hq with ⟨t, v, hp, rfl, hv⟩ | ⟨rfl, hno⟩
  · obtain ⟨a, b, hab, e1, t1, t2⟩ := part_in hp
    refine ⟨v, _, rfl, hR.f, hz, ?_⟩
    rintro r2 h2 ⟨hf, hM2, ⟨a', b', τ, w, hab', e2, rfl, hw⟩ | ⟨rfl, hno⟩⟩
    · obtain ⟨rfl, rfl⟩ := inP_u hR.l3 hb.2.2.2 hab hab'
      have e3 := e1.symm.trans e2
      injection e3 with e3
      subst e3
      refine ⟨?_, re h2 hf hM2⟩
      have n12 : ¬ (1 : Int) = 2 := by decide
      have n18 : ¬ (1 : Int) = 8 := by decide
      have n28 : ¬ (2 : Int) = 8 := by decide
      rcases hw with ⟨k1, rfl⟩ | ⟨k2, rfl⟩ | ⟨c, X, Y, Z, x, K, e8, hx, ex, hK, hs⟩
      · rcases hv with ⟨_, rfl⟩ | ⟨g, -⟩ | ⟨c, X, Y, Z, x, g, -⟩ | ⟨g, -⟩
        · rfl
        · exact absurd (k1.symm.trans g) n12
        · rw [g] at k1; exact absurd (show (8 : Int) = 1 from k1) (by decide)
        · exact absurd k1 g
      · rcases hv with ⟨g, -⟩ | ⟨_, rfl⟩ | ⟨c, X, Y, Z, x, g, -⟩ | ⟨-, g, -⟩
        · exact absurd (g.symm.trans k2) n12
        · rfl
        · rw [g] at k2; exact absurd (show (8 : Int) = 2 from k2) (by decide)
        · exact absurd k2 g
      · have k8 : tkd (den1 t) = 8 := by rw [e8]; rfl
        rcases hv with ⟨g, -⟩ | ⟨g, -⟩ | ⟨c', X', Y', Z', x', g, x1, x2, x3, hv⟩ | ⟨-, -, g, -⟩
        · exact absurd (g.symm.trans k8) n18
        · exact absurd (g.symm.trans k8) n28
        · have eX := (nd_inj (g.symm.trans e8)).2.2.2.1
          have hk := known_eq hR.1.2.2.2.1 hK x' x x1 x2 hx (by rw [x3, ex]; exact eX)
          rcases hv with ⟨f, rfl⟩ | ⟨f, rfl⟩ <;> rcases hs with ⟨f', rfl⟩ | ⟨f', rfl⟩
          · rfl
          · exact absurd (hk.mpr f') f
          · exact absurd (hk.mp f) f'
          · rfl
        · exact absurd k8 g
    · exact absurd hab (hno a b)
  · refine ⟨-1, _, rfl, hR.f, hz, ?_⟩
    rintro r2 h2 ⟨hf, hM2, ⟨a', b', τ, w, hab', e2, rfl, hw⟩ | ⟨rfl, -⟩⟩
    · exact absurd hab' (noPart_in.mp hno a' b')
    · exact ⟨rfl, re h2 hf hM2⟩
theorem j_shown {sc : Nat × (Nat → Int32)} {i j : Int32} (hR : RL h ns n1 made den1 n2 den2 G m ps V S A D) (hq : h1 = h ∧ ((∃ t v, partIs n1 den1 m ps i j t ∧ r = some (.int v) ∧ shoV h n1 den1 t v) ∨ (r = some (.int 0) ∧ noPart m ps i j))) : nxt sc 123 [.int i, .int j] r h1 := by
  have hb := hR.bd
  obtain ⟨rfl, hq⟩ := hq
  have hz := c_Mshown sc 4 hR.2.1 hR.kd hR.kz i j
  have re : ∀ h2, frN h1 h2 → (∃ A', MO h2 ns n2 made den2 G m ps V S A') → RLe h2 := fun h2 hf ⟨A', hM⟩ => ⟨ns, n1, made, den1, n2, den2, G, m, ps, V, S, A', D, hR.1.frN hf, hM, hR.2.2⟩
  rcases hq with ⟨t, v, hp, rfl, hv⟩ | ⟨rfl, hno⟩
  · obtain ⟨a, b, hab, e1, t1, t2⟩ := part_in hp
    refine ⟨v, _, rfl, hR.f, hz, ?_⟩
    rintro r2 h2 ⟨hf, hM2, ⟨a', b', τ, w, hab', e2, rfl, hw⟩ | ⟨rfl, hno⟩⟩
    · obtain ⟨rfl, rfl⟩ := inP_u hR.l3 hb.2.2.2 hab hab'
      have e3 := e1.symm.trans e2
      injection e3 with e3
      subst e3
      refine ⟨?_, re h2 hf hM2⟩
      rcases hw with ⟨k12, rfl⟩ | ⟨c, X, Y, Z, x, K, e8, hx, ex, hK, hs⟩
      · rcases hv with ⟨_, rfl⟩ | ⟨c, X, Y, Z, x, g, -⟩
        · rw [barV, if_pos k12]
        · rw [g] at k12
          rcases k12 with z | z
          · exact absurd (show (8 : Int) = 1 from z) (by decide)
          · exact absurd (show (8 : Int) = 2 from z) (by decide)
      · rcases hv with ⟨g, -⟩ | ⟨c', X', Y', Z', x', g, x1, x2, x3, hv⟩
        · exact absurd (by rw [e8]; rfl) g
        · have eq := nd_inj (g.symm.trans e8)
          have eX := eq.2.2.2.1
          have eZ := eq.2.2.2.2.2
          have hk := known_eq hR.1.2.2.2.1 hK x' x x1 x2 hx (by rw [x3, ex]; exact eX)
          have kz := hR.kz a b c X Y Z hab.1 (by rw [← e8]; exact e1)
          rcases hv with ⟨f, rfl⟩ | ⟨f, rfl⟩ <;> rcases hs with ⟨f', rfl⟩ | ⟨f', rfl⟩
          · rw [eZ, barV, if_pos kz]
          · exact absurd (hk.mpr f') f
          · exact absurd (hk.mp f) f'
          · rfl
    · exact absurd hab (hno a b)
  · refine ⟨0, _, rfl, hR.f, hz, ?_⟩
    rintro r2 h2 ⟨hf, hM2, ⟨a', b', τ, w, hab', e2, rfl, hw⟩ | ⟨rfl, -⟩⟩
    · exact absurd hab' (noPart_in.mp hno a' b')
    · exact ⟨rfl, re h2 hf hM2⟩
end RLJ
