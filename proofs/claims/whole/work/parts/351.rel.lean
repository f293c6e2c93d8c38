def INV (ns m made n1 n2 : Nat) (den1 : Nat → zT) (ps : Nat → List zT) (V : Nat → zV) (D : Nat → zD) : Prop :=
  (∀ i, m ≤ i → ps i = []) ∧ (∀ a τ, τ ∈ ps a → okP τ) ∧ (∀ s, s < ns → sI m (V s).1 (D s)) ∧ made = rl_s rl_e D ns ∧ bz (rl_s rl_w D ns + 4 * m) n1 den1 ∧ n2 ≤ rl_s rl_x D ns + 5 * m
def RL (h : zH) (ns n1 made : Nat) (den1 : Nat → zT) (n2 : Nat) (den2 : Nat → zT) (G : Nat → Int32) (m : Nat) (ps : Nat → List zT) (V : Nat → zV) (S : Nat → Int32) (A : Nat → Nat → Int32) (D : Nat → zD) : Prop :=
  cOK h ns n1 (8 + made) den1 G m ps V ∧ MO h ns n2 made den2 G m ps V S A ∧ INV ns m made n1 n2 den1 ps V D
def RLe (h : zH) : Prop := ∃ ns n1 made den1 n2 den2 G m ps V S A D, RL h ns n1 made den1 n2 den2 G m ps V S A D
def nxt (sc : Nat × (Nat → Int32)) (mi : Nat) (as : List Value) (r : Option Value) (h1 : zH) : Prop := ∃ (v : Int32) (P2 : zP), r = some (.int v) ∧ (∃ fs, h1.1 15 = .inr (6, fs)) ∧ zMt zTab sc 8 mi (.ref 15 :: as) h1 0 0 P2 ∧ ∀ r2 h2, P2 r2 h2 → r2 = some (.int v) ∧ RLe h2
section RLS
variable {h h1 h' : zH} {ns n1 n2 made m : Nat} {den1 den2 : Nat → zT} {G : Nat → Int32} {ps : Nat → List zT} {V : Nat → zV} {S : Nat → Int32} {A : Nat → Nat → Int32} {D : Nat → zD}
theorem MO.frM (hM : MO h ns n2 made den2 G m ps V S A) (hf : frM h h') : MO h' ns n2 made den2 G m ps V S A :=
  ⟨⟨⟨(hf 15 (by decide) (by decide)).trans hM.1.1.1, fun p z1 z2 => (hf p (by omega) z2).trans (hM.1.1.2 p z1 z2)⟩, hM.1.2⟩, hM.2⟩
theorem cOK.frN {k : Nat} (hC : cOK h ns n1 k den1 G m ps V) (hf : frN h h') : cOK h' ns n1 k den1 G m ps V := by
  obtain ⟨e0, h12, ⟨f, e14, hf14⟩, hT, hM, hss, hsz⟩ := hC
  refine ⟨(hf.1 0 (by omega)).trans e0, h12, ⟨f, (hf.1 14 (by omega)).trans e14, hf14⟩, hT.sm (fun q z1 z2 => hf.1 q (by omega)), hM.ext (Nat.le_refl _) (fun _ _ _ => rfl) (hf.1 11 (by omega)) (hf.1 12 (by omega)) (hf.1 13 (by omega)), fun s hs => sOK.ext (c := 0) (hss s hs) exq.rf (fun q z1 z2 => hf.1 q (by omega)), hf.2.trans hsz⟩
theorem RL.bd (hR : RL h ns n1 made den1 n2 den2 G m ps V S A D) : n1 ≤ 661 ∧ n2 ≤ 900 ∧ ns ≤ 12 ∧ m ≤ 60 := by
  obtain ⟨hC, hM, -, -, h3, -, h5, h6⟩ := hR
  have hn := hC.2.1
  have hm := hM.2.2.1.2.1
  have w := rl_s_le (f := rl_w) (D := D) (b := 35) ns (fun s hs => (h3 s hs).w35.1)
  have x := rl_s_le (f := rl_x) (D := D) (b := 50) ns (fun s hs => (h3 s hs).w35.2.1)
  have := h5.le
  exact ⟨by omega, by omega, hn, hm⟩
theorem RL.st (hR : RL h ns n1 made den1 n2 den2 G m ps V S A D) : ∀ s, s < ns → ¬ lim (V s).1 < (V s).1 7 := fun s hs => (hR.2.2.2.2.1 s hs).st
theorem RL.pm (hR : RL h ns n1 made den1 n2 den2 G m ps V S A D) : ps m = [] := hR.2.2.1 m (Nat.le_refl _)
theorem RL.e (hR : RL h ns n1 made den1 n2 den2 G m ps V S A D) : RLe h := ⟨ns, n1, made, den1, n2, den2, G, m, ps, V, S, A, D, hR⟩
theorem RL.f (hR : RL h ns n1 made den1 n2 den2 G m ps V S A D) : ∃ fs, h.1 15 = .inr (6, fs) := ⟨_, hR.2.1.1.f⟩
theorem MO.ff (hM : MO h ns n2 made den2 G m ps V S A) : ∃ fs, h.1 15 = .inr (6, fs) := ⟨_, hM.1.f⟩
theorem RL.md (hR : RL h ns n1 made den1 n2 den2 G m ps V S A D) {s : Nat} (hs : s < ns) (hr : rowI (V s).1 ≠ 2) (hm : myT (V s).1) : made < 12 := by
  have hn := hR.1.2.1
  obtain ⟨-, -, h3, h4, -⟩ := hR.2.2
  have hsI := h3 s hs
  have e0 : rl_e (D s) = 0 := by
    generalize D s = d at hsI
    obtain ⟨p, st, i⟩ := d
    exact (hsI.wr hm).2.2.2.1 hr
  have hu := rl_s_up (f := rl_e) (D := D) (s := s) (x := (0, 1, 1)) ns hs
  have hl := rl_s_le (f := rl_e) (D := va_up D s (0, 1, 1)) (b := 1) ns (fun t ht => by
    by_cases z : t = s
    · subst z; rw [va_up_eq]; decide
    · rw [va_up_lit _ _ _ _ z]; exact (h3 t ht).w35.2.2)
  have e1 : rl_e (0, 1, 1) = 1 := by decide
  omega
theorem INV.write {s p st i n1' n2' made' : Nat} {den1' : Nat → zT} {pay : Int32} {K : Nat → Int32} (hI : INV ns m made n1 n2 den1 ps V D) (hs : s < ns) (hD : D s = (p, st, i)) (hmy : myT (V s).1) (hx : exq n1 den1 n1' den1' (crow (rowI (V s).1) + 5)) (hx2 : n2' ≤ n2 + 15) (hmd : (wpay pay (wrow (rowI (V s).1) ((V s).1, (V s).2.1, [], 8 + made))).2.2.2 = 8 + made') : INV ns (m + 1) made' n1' n2' den1' (va_up ps m (wpay pay (wrow (rowI (V s).1) ((V s).1, (V s).2.1, [], 8 + made))).2.2.1) (va_up V s (endI (wpay pay (wrow (rowI (V s).1) ((V s).1, (V s).2.1, [], 8 + made))).1, (wpay pay (wrow (rowI (V s).1) ((V s).1, (V s).2.1, [], 8 + made))).2.1, K)) (va_up D s (p, st + 1, i)) := by
  obtain ⟨h1, h2, h3, h4, h5, h6⟩ := hI
  have hsI := h3 s hs
  rw [hD] at hsI
  obtain ⟨c, c1, c2⟩ := hsI.2.2.1
  obtain ⟨hcs, -⟩ := hsI.cs
  have c1 : c ≤ 5 * st := c1
  obtain ⟨k1, k2, k3, -, k5⟩ := hsI.wr hmy
  have hG := wpay_G (r := rowI (V s).1) (k := 8 + made) (v := pay) (Θ := (V s).2.1) c2 (by omega)
  rw [wpay_k k5] at hmd
  have u1 := rl_s_up (f := rl_w) (D := D) (s := s) (x := (p, st + 1, i)) ns hs
  have u2 := rl_s_up (f := rl_x) (D := D) (s := s) (x := (p, st + 1, i)) ns hs
  have u3 := rl_s_up (f := rl_e) (D := D) (s := s) (x := (p, st + 1, i)) ns hs
  rw [hD] at u1 u2 u3
  refine ⟨fun j hj => ?_, fun a τ hτ => ?_, fun t ht => ?_, by omega, h5.ex hx (by omega), by omega⟩
  · rw [va_up_lit _ _ _ _ (by omega)]; exact h1 j (by omega)
  · by_cases z : a = m
    · subst z; rw [va_up_eq] at hτ; exact hG.2 τ hτ
    · rw [va_up_lit _ _ _ _ z] at hτ; exact h2 a τ hτ
  · by_cases z : t = s
    · subst z
      rw [va_up_eq, va_up_eq]
      obtain ⟨g0, g1, g7⟩ := wpay_I (r := rowI (V t).1) (k := 8 + made) (v := pay) (I := (V t).1) (Θ := (V t).2.1) (l := [])
      refine hsI.stp (Nat.le_succ m) hmy.1 g0 g1 g7 ?_ (tl_tr (wrow_tl _ _) (wpay_tl _ _))
      obtain ⟨c', c3, c4⟩ := hG.1
      exact ⟨c', by omega, c4⟩
    · rw [va_up_lit _ _ _ _ z, va_up_lit _ _ _ _ z]
      exact (h3 t ht).sm (Nat.le_succ m) (fun _ _ => rfl) rfl
theorem INV.read {s p st i n1' n2' : Nat} {den1' : Nat → zT} {l : List zT} {I' : Nat → Int32} {Θ' : Nat → zT} {Z : zT} {v : Int32} {K : Nat → Int32} (hI : INV ns m made n1 n2 den1 ps V D) (hs : s < ns) (hD : D s = (p, st, i)) (h7 : (V s).1 7 < lim (V s).1) (hmy : ¬ myT (V s).1) (hr : rfin (rowI (V s).1) l (V s).1 (V s).2.1 = some (I', Θ', Z)) (hx : exq n1 den1 n1' den1' (crow (rowI (V s).1) + 5)) (hx2 : n2' ≤ n2 + 13) : INV ns m made n1' n2' den1' ps (va_up V s (noteI (endI I') v, Θ', K)) (va_up D s (p, st + 1, i)) := by
  obtain ⟨h1, h2, h3, h4, h5, h6⟩ := hI
  have hsI := h3 s hs
  rw [hD] at hsI
  obtain ⟨c, c1, c2⟩ := hsI.2.2.1
  have c1 : c ≤ 5 * st := c1
  obtain ⟨k1, k2, k3⟩ := hsI.rd h7 hmy
  have u1 := rl_s_up (f := rl_w) (D := D) (s := s) (x := (p, st + 1, i)) ns hs
  have u2 := rl_s_up (f := rl_x) (D := D) (s := s) (x := (p, st + 1, i)) ns hs
  have u3 := rl_s_up (f := rl_e) (D := D) (s := s) (x := (p, st + 1, i)) ns hs
  rw [hD] at u1 u2 u3
  refine ⟨h1, h2, fun t ht => ?_, by omega, h5.ex hx (by omega), by omega⟩
  by_cases z : t = s
  · subst z
    rw [va_up_eq, va_up_eq]
    obtain ⟨g0, g1, g7, c', c3, c4⟩ := rfin_I hr c2
    have := hsI.stp (Nat.le_refl m) h7 g0 g1 g7 ⟨c', by omega, c4⟩ (rfin_tl hr)
    exact this.sm (Nat.le_refl m) (fun q hq => (va_up_lit _ _ _ _ (show ¬ q = 11 by omega)).trans (va_up_lit _ _ _ _ (show ¬ q = 10 by omega))) rfl
  · rw [va_up_lit _ _ _ _ z, va_up_lit _ _ _ _ z]
    exact h3 t ht
/-- a message more, and of one session only what does not count -/
theorem INV.gen {m' n1' n2' : Nat} {den1' : Nat → zT} {V' : Nat → zV} {ps' : Nat → List zT} (hI : INV ns m made n1 n2 den1 ps V D) (hps : ∀ i, m' ≤ i → ps' i = []) (hok : ∀ a τ, τ ∈ ps' a → okP τ) (hV : ∀ s, s < ns → sI m' (V' s).1 (D s)) (hb : bz (rl_s rl_w D ns + 4 * m') n1' den1') (hx : n2' ≤ n2 + 5 * (m' - m)) (hm : m ≤ m') : INV ns m' made n1' n2' den1' ps' V' D := by
  obtain ⟨h1, h2, h3, h4, h5, h6⟩ := hI
  exact ⟨hps, hok, hV, h4, hb, by omega⟩
theorem ps_new {l : List zT} (h1 : ∀ i, m ≤ i → ps i = []) : ∀ i, m + 1 ≤ i → va_up ps m l i = [] := fun i hi => by rw [va_up_lit _ _ _ _ (by omega)]; exact h1 i (by omega)
theorem ok_new {l : List zT} (h2 : ∀ a τ, τ ∈ ps a → okP τ) (hl : ∀ τ, τ ∈ l → okP τ) : ∀ a τ, τ ∈ va_up ps m l a → okP τ := by
  intro a τ hτ
  by_cases z : a = m
  · subst z; rw [va_up_eq] at hτ; exact hl τ hτ
  · rw [va_up_lit _ _ _ _ z] at hτ; exact h2 a τ hτ
theorem INV.start {p i own oth prol : Int32} {n1' n2' : Nat} {den1' : Nat → zT} {K : Nat → Int32} {Θ : Nat → zT} (hI : INV ns m made n1 n2 den1 ps V D) (hp : p = 0 ∨ p = 1) (hi : i = 0 ∨ i = 1) (hx : exq n1 den1 n1' den1' 5) (hx2 : n2' ≤ n2 + 5) : INV (ns + 1) m made n1' n2' den1' ps (va_up V ns (stI p i own oth, Θ, K)) (va_up D ns ((if p = 0 then 0 else 1), 0, (if i = 0 then 0 else 1))) := by
  obtain ⟨h1, h2, h3, h4, h5, h6⟩ := hI
  have ew : rl_w ((if p = 0 then 0 else 1), 0, (if i = 0 then 0 else 1)) = 5 := by rcases hp with rfl | rfl <;> rcases hi with rfl | rfl <;> decide
  have ee : rl_e ((if p = 0 then 0 else 1), 0, (if i = 0 then 0 else 1)) = 0 := by rcases hi with rfl | rfl <;> rfl
  have ex : rl_x ((if p = 0 then 0 else 1), 0, (if i = 0 then 0 else 1)) = 5 := rfl
  refine ⟨h1, h2, fun t ht => ?_, by rw [rl_s_new, ee]; exact h4, h5.ex hx (by rw [rl_s_new, ew]; omega), by rw [rl_s_new, ex]; omega⟩
  by_cases z : t = ns
  · subst z
    rw [va_up_eq, va_up_eq]
    refine ⟨?_, ⟨?_, rfl, ?_⟩, ⟨0, Nat.zero_le _, rfl⟩, ⟨0, Nat.zero_le _, rfl⟩, fun _ => ⟨0, rfl, ?_⟩⟩
    · rcases hp with rfl | rfl <;> rcases hi with rfl | rfl <;> decide
    · rcases hp with rfl | rfl <;> rfl
    · rcases hi with rfl | rfl <;> rfl
    · rcases hp with rfl | rfl <;> rcases hi with rfl | rfl <;> decide
  · rw [va_up_lit _ _ _ _ z, va_up_lit _ _ _ _ z]
    exact h3 t (by omega)
end RLS
