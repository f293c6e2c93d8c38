section RLK
variable {h h1 h' : zH} {ns n1 n2 made m : Nat} {den1 den2 : Nat → zT} {G : Nat → Int32} {ps : Nat → List zT} {V : Nat → zV} {S : Nat → Int32} {A : Nat → Nat → Int32} {D : Nat → zD} {r : Option Value}
theorem j_start {sc : Nat × (Nat → Int32)} {p i own oth prol : Int32} (hi : i = 0 ∨ i = 1) (hR : RL h ns n1 made den1 n2 den2 G m ps V S A D) (hq : (r = some (.int (-1)) ∧ h1 = h ∧ ¬ stOK p i own oth) ∨ (stOK p i own oth ∧ ((r = some (.int (-4)) ∧ h1 = h ∧ ns = 12) ∨ (r = some (.int (nI ns)) ∧ ns < 12 ∧ frM h h1 ∧ ∃ n' den', exq n1 den1 n' den' 5 ∧ cOK h1 (ns + 1) n' (8 + made) den' G m ps (va_up V ns (stI p i own (stO p i oth), bgΘ p i own (stO p i oth) prol, fun _ => 0)))))) : nxt sc 96 [.int p, .int i, .int own, .int oth, .int prol] r h1 := by
  have hb := hR.bd
  rcases hq with ⟨rfl, rfl, hno⟩ | ⟨hok, ⟨rfl, rfl, h12⟩ | ⟨rfl, h12, hf, n', den', hx, hC⟩⟩
  · refine ⟨-1, _, rfl, hR.f, c_Mstart sc 5 hR.2.1 (by omega) hi, ?_⟩
    rintro r2 h2 (⟨rfl, rfl, -⟩ | ⟨hok, -⟩)
    · exact ⟨rfl, hR.e⟩
    · exact absurd hok hno
  · refine ⟨-4, _, rfl, hR.f, c_Mstart sc 5 hR.2.1 (by omega) hi, ?_⟩
    rintro r2 h2 (⟨rfl, rfl, hno⟩ | ⟨-, ⟨rfl, rfl, -⟩ | ⟨rfl, h12', -⟩⟩)
    · exact absurd hok hno
    · exact ⟨rfl, hR.e⟩
    · omega
  · have hM := hR.2.1.frM hf
    refine ⟨nI ns, _, rfl, hM.ff, c_Mstart sc 5 hM (by omega) hi, ?_⟩
    rintro r2 h2 (⟨rfl, rfl, hno⟩ | ⟨-, ⟨rfl, rfl, h12'⟩ | ⟨rfl, -, hf2, n2', den2', S', A', hx2, hM2⟩⟩)
    · exact absurd hok hno
    · omega
    · exact ⟨rfl, _, n', made, den', n2', den2', G, m, ps, _, S', A', _, hC.frN hf2, hM2, hR.2.2.start (prol := prol) hok.1 hi hx hx2.2.1⟩
theorem j_write {sc : Nat × (Nat → Int32)} {i pay : Int32} (hR : RL h ns n1 made den1 n2 den2 G m ps V S A D) (hq : wrQ h ns n1 (8 + made) den1 G m ps V i pay r h1) : nxt sc 101 [.int i, .int pay] r h1 := by
  have hb := hR.bd
  have hmd : ∀ s, s < ns → i = nI s → rowI (V s).1 ≠ 2 → myT (V s).1 → made < 12 := fun s hs _ h1 h2 => hR.md hs h1 h2
  have ho := c_Mwrite sc 2 hR.2.1 (by omega) hR.st i pay hmd
  rcases hq with ⟨rfl, rfl, hno⟩ | ⟨s, hs, rfl, ⟨rfl, rfl, h8⟩ | ⟨rfl, rfl, h8, hmy⟩ | ⟨rfl, rfl, h8, hmy, hm⟩ | ⟨rfl, h8, hmy, hm, hf, n', den', hx, hC⟩⟩
  · refine ⟨-1, _, rfl, hR.f, ho, ?_⟩
    rintro r2 h2 (⟨rfl, rfl, -⟩ | ⟨s, hs, rfl, -⟩)
    · exact ⟨rfl, hR.e⟩
    · exact absurd rfl (hno s hs)
  · refine ⟨-2, _, rfl, hR.f, ho, ?_⟩
    rintro r2 h2 (⟨rfl, rfl, hno⟩ | ⟨s', hs', e, hcs⟩)
    · exact absurd rfl (hno s hs)
    · have := nI_inj (by omega) (by omega) e
      subst this
      rcases hcs with ⟨rfl, rfl, -⟩ | ⟨-, -, z, -⟩ | ⟨-, -, z, -⟩ | ⟨-, z, -⟩
      · exact ⟨rfl, hR.e⟩
      · exact absurd z h8
      · exact absurd z h8
      · exact absurd z h8
  · refine ⟨-3, _, rfl, hR.f, ho, ?_⟩
    rintro r2 h2 (⟨rfl, rfl, hno⟩ | ⟨s', hs', e, hcs⟩)
    · exact absurd rfl (hno s hs)
    · have := nI_inj (by omega) (by omega) e
      subst this
      rcases hcs with ⟨-, -, z⟩ | ⟨rfl, rfl, -⟩ | ⟨-, -, -, z, -⟩ | ⟨-, -, z, -⟩
      · exact absurd h8 z
      · exact ⟨rfl, hR.e⟩
      · exact absurd z hmy
      · exact absurd z hmy
  · refine ⟨-4, _, rfl, hR.f, ho, ?_⟩
    rintro r2 h2 (⟨rfl, rfl, hno⟩ | ⟨s', hs', e, hcs⟩)
    · exact absurd rfl (hno s hs)
    · have := nI_inj (by omega) (by omega) e
      subst this
      rcases hcs with ⟨-, -, z⟩ | ⟨-, -, -, z⟩ | ⟨rfl, rfl, -⟩ | ⟨-, -, -, z, -⟩
      · exact absurd h8 z
      · exact absurd hmy z
      · exact ⟨rfl, hR.e⟩
      · omega
  · have hM := hR.2.1.frM hf
    refine ⟨nI m, _, rfl, hM.ff, c_Mwrite sc 2 hM (by omega) hR.st (nI s) pay hmd, ?_⟩
    rintro r2 h2 (⟨rfl, rfl, hno⟩ | ⟨s', hs', e, hcs⟩)
    · exact absurd rfl (hno s hs)
    · have := nI_inj (by omega) (by omega) e
      subst this
      rcases hcs with ⟨-, -, z⟩ | ⟨-, -, -, z⟩ | ⟨-, -, -, -, z⟩ | ⟨rfl, -, -, -, hf2, n2', den2', made', S', A', hx2, hk, hM2⟩
      · exact absurd h8 z
      · exact absurd hmy z
      · omega
      · rw [hk] at hC
        obtain ⟨p, st, ii⟩ : ∃ p st ii, D s = (p, st, ii) := ⟨(D s).1, (D s).2.1, (D s).2.2, rfl⟩
        exact ⟨rfl, ns, n', made', den', n2', den2', G, m + 1, _, _, S', A', _, hC.frN hf2, hM2, hR.2.2.write (p := (D s).1) (st := (D s).2.1) (i := (D s).2.2) hs rfl hmy hx hx2.2.1 hk⟩
theorem j_send {sc : Nat × (Nat → Int32)} {i pay : Int32} (hR : RL h ns n1 made den1 n2 den2 G m ps V S A D) (hq : sndQ h ns n1 (8 + made) den1 G m ps V i pay r h1) : nxt sc 108 [.int i, .int pay] r h1 := by
  have hb := hR.bd
  have ho := c_Msend sc 5 hR.2.1 (by omega) hR.st i pay
  rcases hq with ⟨rfl, rfl, hno⟩ | ⟨s, hs, rfl, ⟨rfl, rfl, h8⟩ | ⟨rfl, rfl, h8, hd⟩ | ⟨rfl, rfl, h8, hd, hm⟩ | ⟨rfl, h8, hd, hm, hf, n', den', hx, hC⟩⟩
  · refine ⟨-1, _, rfl, hR.f, ho, ?_⟩
    rintro r2 h2 (⟨rfl, rfl, -⟩ | ⟨s, hs, rfl, -⟩)
    · exact ⟨rfl, hR.e⟩
    · exact absurd rfl (hno s hs)
  · refine ⟨-2, _, rfl, hR.f, ho, ?_⟩
    rintro r2 h2 (⟨rfl, rfl, hno⟩ | ⟨s', hs', e, hcs⟩)
    · exact absurd rfl (hno s hs)
    · have := nI_inj (by omega) (by omega) e
      subst this
      rcases hcs with ⟨rfl, rfl, -⟩ | ⟨-, -, z, -⟩ | ⟨-, -, z, -⟩ | ⟨-, z, -⟩
      · exact ⟨rfl, hR.e⟩
      · exact absurd z h8
      · exact absurd z h8
      · exact absurd z h8
  · refine ⟨-3, _, rfl, hR.f, ho, ?_⟩
    rintro r2 h2 (⟨rfl, rfl, hno⟩ | ⟨s', hs', e, hcs⟩)
    · exact absurd rfl (hno s hs)
    · have := nI_inj (by omega) (by omega) e
      subst this
      rcases hcs with ⟨-, -, z⟩ | ⟨rfl, rfl, -⟩ | ⟨-, -, -, z, -⟩ | ⟨-, -, z, -⟩
      · exact absurd h8 z
      · exact ⟨rfl, hR.e⟩
      · exact absurd hd z
      · exact absurd hd z
  · refine ⟨-4, _, rfl, hR.f, ho, ?_⟩
    rintro r2 h2 (⟨rfl, rfl, hno⟩ | ⟨s', hs', e, hcs⟩)
    · exact absurd rfl (hno s hs)
    · have := nI_inj (by omega) (by omega) e
      subst this
      rcases hcs with ⟨-, -, z⟩ | ⟨-, -, -, z⟩ | ⟨rfl, rfl, -⟩ | ⟨-, -, -, z, -⟩
      · exact absurd h8 z
      · exact absurd z hd
      · exact ⟨rfl, hR.e⟩
      · omega
  · have hM := hR.2.1.frM hf
    refine ⟨nI m, _, rfl, hM.ff, c_Msend sc 5 hM (by omega) hR.st (nI s) pay, ?_⟩
    rintro r2 h2 (⟨rfl, rfl, hno⟩ | ⟨s', hs', e, hcs⟩)
    · exact absurd rfl (hno s hs)
    · have := nI_inj (by omega) (by omega) e
      subst this
      rcases hcs with ⟨-, -, z⟩ | ⟨-, -, -, z⟩ | ⟨-, -, -, -, z⟩ | ⟨rfl, -, -, -, hf2, n2', den2', S', A', hx2, hM2⟩
      · exact absurd h8 z
      · exact absurd z hd
      · omega
      · obtain ⟨i1, i2, i3, i4, i5, i6⟩ := id hR.2.2
        obtain ⟨c, c1, c2⟩ := (i3 s hs).2.2.2.1
        refine ⟨rfl, ns, n', made, den', n2', den2', G, m + 1, _, _, S', A', D, hC.frN hf2, hM2, hR.2.2.gen (ps_new i1) (ok_new i2 ?_) (fun t ht => ?_) (i5.ex hx (by omega)) (by have := hx2.2.1; omega) (Nat.le_succ m)⟩
        · intro τ hτ
          rcases List.mem_cons.mp hτ with rfl | hτ
          · exact Or.inl rfl
          · rw [List.mem_singleton.mp hτ]
            exact Or.inr (Or.inr ⟨(V s).1 12, _, _, tN pay, rfl, by rw [c2, nI_toInt (by omega)]; omega, Or.inl rfl⟩)
        · by_cases z : t = s
          · subst z
            rw [va_up_eq]
            obtain ⟨b1, b2, b3, -, b5⟩ := i3 t hs
            exact ⟨b1, b2, b3, ⟨c + 1, by omega, by show va_up (V t).1 12 ((V t).1 12 + 1) 12 = _; rw [va_up_eq, c2, nI_1']⟩, b5⟩
          · rw [va_up_lit _ _ _ _ z]
            exact (i3 t ht).sm (Nat.le_succ m) (fun _ _ => rfl) rfl
theorem j_give {sc : Nat × (Nat → Int32)} {key : Int32} (hR : RL h ns n1 made den1 n2 den2 G m ps V S A D) (hq : (r = some (.int 0) ∧ h1 = h ∧ (key < 1 ∨ nI (8 + made) < key ∨ ∃ p, 0 < p ∧ p ≤ 8 + made ∧ key = nI p ∧ ¬ G p = 0)) ∨ (r = some (.int 1) ∧ frM h h1 ∧ ∃ p, 0 < p ∧ p ≤ 8 + made ∧ key = nI p ∧ G p = 0 ∧ cOK h1 ns n1 (8 + made) den1 (upd G p 1) m ps V)) : nxt sc 112 [.int key] r h1 := by
  have hmd := hR.2.1.2.2.1.2.2
  rcases hq with ⟨rfl, rfl, hno⟩ | ⟨rfl, hf, p, p1, p2, rfl, p4, hC⟩
  · refine ⟨0, _, rfl, hR.f, c_Mgive sc 6 hR.2.1 key, ?_⟩
    rintro r2 h2 (⟨rfl, rfl, -⟩ | ⟨p, A', p1, p2, rfl, p4, rfl, -⟩)
    · exact ⟨rfl, hR.e⟩
    · exfalso
      rcases hno with z | z | ⟨p', -, q2, q3, q4⟩
      · exact absurd z (fun w => by
          have := (nI_ltI (a := p) (b := 1) (by omega) (by decide)).mp w
          omega)
      · have := (nI_ltI (a := 8 + made) (b := p) (by omega) (by omega)).mp z
        omega
      · have := nI_inj (by omega) (by omega) q3
        subst this
        exact q4 p4
  · have hM := hR.2.1.frM hf
    refine ⟨1, _, rfl, hM.ff, c_Mgive sc 6 hM (nI p), ?_⟩
    rintro r2 h2 (⟨rfl, rfl, hno⟩ | ⟨p', A', q1, q2, e, -, rfl, hM2, hf2⟩)
    · exact absurd p4 (hno p p1 p2 rfl)
    · have := nI_inj (by omega) (by omega) e
      subst this
      exact ⟨rfl, ns, n1, made, den1, n2, den2, _, m, ps, V, S, A', D, hC.frN hf2, hM2, hR.2.2⟩
theorem j_ch {c c2 : Nat} {i j : Int32} {τ : zT} {P2 : zH → zP} {v : Option Value} (hR : RL h ns n1 made den1 n2 den2 G m ps V S A D) (hτ : okP τ) (hc : c ≤ 1) (hc2 : c2 ≤ 1) (hq : chQ h ns n1 (8 + made) c den1 G m ps V i j τ r h1) : ∃ v : Int32, r = some (.int v) ∧ frM h h1 ∧ ∀ r2 h2, chM h1 ns n2 made c2 den2 G m ps V i j τ r2 h2 → r2 = some (.int v) ∧ RLe h2 := by
  have hb := hR.bd
  obtain ⟨a, b, hab, ⟨rfl, rfl, hm⟩ | ⟨rfl, hm, hf, n', den', hx, hC⟩⟩ := hq
  · refine ⟨-4, rfl, frM.rf, ?_⟩
    rintro r2 h2 ⟨a', b', hab', ⟨rfl, rfl, -⟩ | ⟨-, hm', -⟩⟩
    · exact ⟨rfl, hR.e⟩
    · omega
  · refine ⟨nI m, rfl, hf, ?_⟩
    rintro r2 h2 ⟨a', b', hab', ⟨-, -, hm'⟩ | ⟨rfl, -, hf2, n2', den2', S', A', hx2, hM2⟩⟩
    · omega
    · obtain ⟨rfl, rfl⟩ := inP_u hR.l3 hb.2.2.2 hab hab'
      obtain ⟨i1, i2, i3, i4, i5, i6⟩ := id hR.2.2
      refine ⟨rfl, ns, n', made, den', n2', den2', G, m + 1, _, V, S', A', D, hC.frN hf2, hM2, hR.2.2.gen (ps_new i1) (ok_new i2 (fun σ hσ => ?_)) (fun t ht => (i3 t ht).sm (Nat.le_succ m) (fun _ _ => rfl) rfl) (i5.ex hx (by omega)) (by have := hx2.2.1; omega) (Nat.le_succ m)⟩
      rcases List.mem_or_eq_of_mem_set hσ with z | z
      · exact i2 a σ z
      · rw [z]; exact hτ
theorem j_splice {sc : Nat × (Nat → Int32)} {i j i' j' : Int32} (hR : RL h ns n1 made den1 n2 den2 G m ps V S A D) (hq : (r = some (.int (-1)) ∧ h1 = h ∧ ((∀ a b, ¬ inP m ps i j a b) ∨ ∀ a b, ¬ inP m ps i' j' a b)) ∨ ∃ a b τ, inP m ps i' j' a b ∧ (ps a)[b]? = some τ ∧ chQ h ns n1 (8 + made) 0 den1 G m ps V i j τ r h1) : nxt sc 110 [.int i, .int j, .int i', .int j'] r h1 := by
  have hb := hR.bd
  rcases hq with ⟨rfl, rfl, hno⟩ | ⟨a, b, τ, hab, e, hch⟩
  · refine ⟨-1, _, rfl, hR.f, c_Msplice sc 5 hR.2.1 i j i' j', ?_⟩
    rintro r2 h2 (⟨rfl, rfl, -⟩ | ⟨a, b, τ, hab, e, a', b', hab', -⟩)
    · exact ⟨rfl, hR.e⟩
    · rcases hno with hno | hno
      · exact absurd hab' (hno a' b')
      · exact absurd hab (hno a b)
  · have hτ : okP τ := hR.2.2.2.1 a τ (List.mem_of_getElem? e)
    obtain ⟨v, rfl, hf, hk⟩ := j_ch (c2 := 0) (P2 := fun _ _ _ => True) (v := none) hR hτ (by decide) (by decide) hch
    have hM := hR.2.1.frM hf
    refine ⟨v, _, rfl, hM.ff, c_Msplice sc 5 hM i j i' j', ?_⟩
    rintro r2 h2 (⟨rfl, rfl, hno⟩ | ⟨a', b', τ', hab', e', hch'⟩)
    · exfalso
      obtain ⟨c, d, hcd, -⟩ := hch
      rcases hno with hno | hno
      · exact hno c d hcd
      · exact hno a b hab
    · obtain ⟨rfl, rfl⟩ := inP_u hR.l3 hb.2.2.2 hab hab'
      have e3 := e.symm.trans e'
      injection e3 with e3
      subst e3
      exact hk r2 h2 hch'
theorem j_replace {sc : Nat × (Nat → Int32)} {i j w : Int32} (hR : RL h ns n1 made den1 n2 den2 G m ps V S A D) (hq : (r = some (.int (-1)) ∧ h1 = h ∧ (∀ a b, ¬ inP m ps i j a b)) ∨ chQ h ns n1 (8 + made) 1 den1 G m ps V i j (tN w) r h1) : nxt sc 111 [.int i, .int j, .int w] r h1 := by
  have hb := hR.bd
  rcases hq with ⟨rfl, rfl, hno⟩ | hch
  · refine ⟨-1, _, rfl, hR.f, c_Mreplace sc 5 hR.2.1 (by omega) i j w, ?_⟩
    rintro r2 h2 (⟨rfl, rfl, -⟩ | ⟨a', b', hab', -⟩)
    · exact ⟨rfl, hR.e⟩
    · exact absurd hab' (hno a' b')
  · obtain ⟨v, rfl, hf, hk⟩ := j_ch (c2 := 1) (P2 := fun _ _ _ => True) (v := none) hR (Or.inl rfl) (by decide) (by decide) hch
    have hM := hR.2.1.frM hf
    refine ⟨v, _, rfl, hM.ff, c_Mreplace sc 5 hM (by omega) i j w, ?_⟩
    rintro r2 h2 (⟨rfl, rfl, hno⟩ | hch')
    · exfalso
      obtain ⟨c, d, hcd, -⟩ := hch
      exact hno c d hcd
    · exact hk r2 h2 hch'
theorem sI.tick {I : Nat → Int32} {d : zD} (hd : sI m I d) : sI m (tickI I) d ∧ (I 8 = 0 → ¬ I 9 + 1 < tlim I → I 9 + 1 = tlim I) := by
  obtain ⟨p, st, ii⟩ := d
  have hl := hd.lt
  obtain ⟨b1, ⟨e0, e7, e1⟩, b3, b4, b5⟩ := id hd
  have ht : I 8 = 0 → ∃ a, I 9 = nI a ∧ a < 30 ∧ (tlim I = nI (if st < lmN p then 6 else 30)) ∧ a < (if st < lmN p then 6 else 30) := by
    intro z
    obtain ⟨a, a1, a2⟩ := b5 z
    have a2 : a < (if st < lmN p then 6 else 30) := a2
    refine ⟨a, a1, by split at a2 <;> omega, ?_, a2⟩
    unfold tlim
    by_cases w : I 7 < lim I
    · rw [if_pos w, if_pos (hl.mp w)]; rfl
    · rw [if_neg w, if_neg (fun q => w (hl.mpr q))]; rfl
  refine ⟨?_, fun z hn => ?_⟩
  · unfold tickI
    by_cases z : I 8 = 0
    · rw [if_pos z]
      obtain ⟨a, a1, a2, a3, a4⟩ := ht z
      have q : ∀ x, x ≠ 8 → x ≠ 9 → va_up (va_up I 9 (I 9 + 1)) 8 (if I 9 + 1 < tlim I then 0 else 1) x = I x := fun x h1 h2 => (va_up_lit _ _ _ _ h1).trans (va_up_lit _ _ _ _ h2)
      refine ⟨b1, ⟨(q 0 (by decide) (by decide)).trans e0, (q 7 (by decide) (by decide)).trans e7, (q 1 (by decide) (by decide)).trans e1⟩, by rw [q 6 (by decide) (by decide)]; exact b3, by rw [q 12 (by decide) (by decide)]; exact b4, fun w => ?_⟩
      rw [va_up_eq] at w
      have w2 : I 9 + 1 < tlim I := by
        by_cases y : I 9 + 1 < tlim I
        · exact y
        · rw [if_neg y] at w; exact absurd w (by decide)
      refine ⟨a + 1, ?_, ?_⟩
      · rw [va_up_lit _ _ _ _ (by decide), va_up_eq, a1, nI_1']
      · show a + 1 < (if st < lmN p then 6 else 30)
        rw [a1, a3, nI_1', nI_ltI (by omega) (by split <;> decide)] at w2
        exact w2
    · rw [if_neg z]; exact hd
  · obtain ⟨a, a1, a2, a3, a4⟩ := ht z
    rw [a1, a3, nI_1'] at hn ⊢
    rw [nI_ltI (by omega) (by split <;> decide)] at hn
    congr 1
    omega
theorem j_tick {sc : Nat × (Nat → Int32)} (hR : RL h ns n1 made den1 n2 den2 G m ps V S A D) (hq : r = some (.int (nI (tcnt V ns))) ∧ cOK h1 ns n1 (8 + made) den1 G m ps (tickV V ns) ∧ frM h h1) : nxt sc 113 [] r h1 := by
  obtain ⟨rfl, hC, hf⟩ := hq
  have hM := hR.2.1.frM hf
  obtain ⟨i1, i2, i3, i4, i5, i6⟩ := id hR.2.2
  refine ⟨_, _, rfl, hM.ff, c_Mtick sc 5 hM hR.st (fun s hs => (i3 s hs).tick.2), ?_⟩
  rintro r2 h2 ⟨rfl, hf2, A', hM2⟩
  refine ⟨rfl, ns, n1, made, den1, n2, den2, G, m, ps, _, S, A', D, hC.frN hf2, hM2, i1, i2, fun s hs => ?_, i4, i5, i6⟩
  unfold tickV
  rw [if_pos hs]
  exact (i3 s hs).tick.1
theorem accC_u {l : List zT} {I : Nat → Int32} {Θ : Nat → zT} {K : Nat → Int32} {v v' : Int32} {Z Z' : zT} (h1 : accC l I Θ K v Z) (h2 : accC l I Θ K v' Z') : v = v' ∧ Z = Z' := by
  obtain ⟨-, τ0, τ1, a0, a1, -, a3, -, -, -, -, a8, -⟩ := h1
  obtain ⟨-, σ0, σ1, b0, b1, -, b3, -, -, -, -, b8, -⟩ := h2
  have e0 := a0.symm.trans b0
  have e1 := a1.symm.trans b1
  injection e0 with e0
  injection e1 with e1
  subst e0 e1
  exact ⟨a3.symm.trans b3, (nd_inj (a8.symm.trans b8)).2.2.2.2.2⟩
theorem j_deliver {sc : Nat × (Nat → Int32)} {mi i : Int32} (hR : RL h ns n1 made den1 n2 den2 G m ps V S A D) (hq : dvQ h ns n1 (8 + made) den1 G m ps V mi i r h1) : nxt sc 107 [.int mi, .int i] r h1 := by
  have hb := hR.bd
  have go : ∀ {hh : zH}, MO hh ns n2 made den2 G m ps V S A → zMt zTab sc 8 107 [.ref 15, .int mi, .int i] hh 0 0 (dvM hh ns n2 made den2 G m ps V mi i) := fun hM => c_Mdeliver sc 1 hM (by omega) hR.st hR.k60 mi i
  obtain ⟨i1, i2, i3, i4, i5, i6⟩ := id hR.2.2
  rcases hq with ⟨rfl, rfl, hno⟩ | ⟨s, a, hs, rfl, ha, rfl, hcs⟩
  · refine ⟨-1, _, rfl, hR.f, go hR.2.1, ?_⟩
    rintro r2 h2 (⟨rfl, rfl, -⟩ | ⟨s, a, hs, rfl, ha, rfl, -⟩)
    · exact ⟨rfl, hR.e⟩
    · rcases hno with hno | hno
      · exact absurd rfl (hno s hs)
      · exact absurd rfl (hno a ha)
  have bad : ¬ ((∀ t, t < ns → nI s ≠ nI t) ∨ ∀ b, b < m → nI a ≠ nI b) := fun z => z.elim (fun z => z s hs rfl) (fun z => z a ha rfl)
  rcases hcs with ⟨rfl, rfl, h8⟩ | ⟨h8, hd, hf, hcs⟩ | ⟨h8, h7, hf, hcs⟩
  · refine ⟨-2, _, rfl, hR.f, go hR.2.1, ?_⟩
    rintro r2 h2 (⟨rfl, rfl, hno⟩ | ⟨s', a', hs', e, ha', e', hcs⟩)
    · exact absurd hno bad
    · have z1 := nI_inj (by omega) (by omega) e
      have z2 := nI_inj (by omega) (by omega) e'
      subst z1 z2
      rcases hcs with ⟨rfl, rfl, -⟩ | ⟨z, -⟩ | ⟨z, -⟩
      · exact ⟨rfl, hR.e⟩
      · exact absurd z h8
      · exact absurd z h8
  · have hM := hR.2.1.frM hf
    rcases hcs with ⟨v, Z, n', den', hacc, rfl, hx, hC⟩ | ⟨rfl, hno, n', den', hx, hC⟩
    · refine ⟨1, _, rfl, hM.ff, go hM, ?_⟩
      rintro r2 h2 (⟨rfl, rfl, hno⟩ | ⟨s', a', hs', e, ha', e', hcs⟩)
      · exact absurd hno bad
      · have z1 := nI_inj (by omega) (by omega) e
        have z2 := nI_inj (by omega) (by omega) e'
        subst z1 z2
        rcases hcs with ⟨-, -, z⟩ | ⟨-, -, hf2, ⟨v', Z', S', A', hacc', rfl, hM2⟩ | ⟨-, hno, -⟩⟩ | ⟨-, z, -⟩
        · exact absurd h8 z
        · obtain ⟨rfl, rfl⟩ := accC_u hacc hacc'
          refine ⟨rfl, ns, n', made, den', n2, den2, G, m, ps, _, S', A', D, hC.frN hf2, hM2, i1, i2, fun t ht => ?_, i4, i5.ex0 hx, i6⟩
          by_cases z : t = s
          · subst z
            rw [va_up_eq]
            refine (i3 t ht).sm (Nat.le_refl m) (fun q hq => ?_) ?_
            · exact (va_up_lit _ _ _ _ (show ¬ q = 11 by omega)).trans ((va_up_lit _ _ _ _ (show ¬ q = 10 by omega)).trans (va_up_lit _ _ _ _ (show ¬ q = 13 by omega)))
            · rfl
          · rw [va_up_lit _ _ _ _ z]; exact i3 t ht
        · exact absurd hacc (hno v Z)
        · exact absurd z hd
    · refine ⟨0, _, rfl, hM.ff, go hM, ?_⟩
      rintro r2 h2 (⟨rfl, rfl, hno⟩ | ⟨s', a', hs', e, ha', e', hcs⟩)
      · exact absurd hno bad
      · have z1 := nI_inj (by omega) (by omega) e
        have z2 := nI_inj (by omega) (by omega) e'
        subst z1 z2
        rcases hcs with ⟨-, -, z⟩ | ⟨-, -, hf2, ⟨v', Z', S', A', hacc', -⟩ | ⟨rfl, -, S', A', hM2⟩⟩ | ⟨-, z, -⟩
        · exact absurd h8 z
        · exact absurd hacc' (hno v' Z')
        · exact ⟨rfl, ns, n', made, den', n2, den2, G, m, ps, V, S', A', D, hC.frN hf2, hM2, i1, i2, i3, i4, i5.ex0 hx, i6⟩
        · exact absurd z hd
  · have hM := hR.2.1.frM hf
    rcases hcs with ⟨I', Θ', Z, n', den', hmy, hrf, hZ, rfl, hx, hC⟩ | ⟨rfl, hno, hC⟩
    · refine ⟨1, _, rfl, hM.ff, go hM, ?_⟩
      rintro r2 h2 (⟨rfl, rfl, hno⟩ | ⟨s', a', hs', e, ha', e', hcs⟩)
      · exact absurd hno bad
      · have z1 := nI_inj (by omega) (by omega) e
        have z2 := nI_inj (by omega) (by omega) e'
        subst z1 z2
        rcases hcs with ⟨-, -, z⟩ | ⟨-, z, -⟩ | ⟨-, -, hf2, ⟨I2, Θ2, Z2, n2', den2', S', A', -, hrf2, -, rfl, hx2, hM2⟩ | ⟨-, hno, -⟩⟩
        · exact absurd h8 z
        · exact absurd h7 z
        · have e3 := hrf.symm.trans hrf2
          injection e3 with e3
          injection e3 with e4 e3
          injection e3 with e5 e6
          subst e4 e5 e6
          exact ⟨rfl, ns, n', made, den', n2', den2', G, m, ps, _, S', A', _, hC.frN hf2, hM2, hR.2.2.read (p := (D s).1) (st := (D s).2.1) (i := (D s).2.2) hs rfl h7 hmy hrf hx hx2.2.1⟩
        · rcases hno with hno | hno
          · exact absurd hno hmy
          · rw [hrf] at hno; cases hno
    · refine ⟨0, _, rfl, hM.ff, go hM, ?_⟩
      rintro r2 h2 (⟨rfl, rfl, hno⟩ | ⟨s', a', hs', e, ha', e', hcs⟩)
      · exact absurd hno bad
      · have z1 := nI_inj (by omega) (by omega) e
        have z2 := nI_inj (by omega) (by omega) e'
        subst z1 z2
        rcases hcs with ⟨-, -, z⟩ | ⟨-, z, -⟩ | ⟨-, -, hf2, ⟨I2, Θ2, Z2, n2', den2', S', A', hmy, hrf2, -⟩ | ⟨rfl, -, S', A', hM2⟩⟩
        · exact absurd h8 z
        · exact absurd h7 z
        · exfalso
          rcases hno with hno | hno
          · exact hmy hno
          · rw [hrf2] at hno; cases hno
        · exact ⟨rfl, ns, n1, made, den1, n2, den2, G, m, ps, V, S', A', D, hC.frN hf2, hM2, hR.2.2⟩
end RLK
