/-! Terms.make: every term once. -/
def bkT (T : Nat → Nat → Int32) (t : Nat) : Int32 := bkt (T 0 t) (T 1 t) (T 2 t) (T 3 t) (T 4 t)
def TI (T : Nat → Nat → Int32) (n k : Nat) (den : Nat → zT) : Prop :=
  n < 720 ∧ (8 ≤ k ∧ k ≤ 20) ∧ (∀ j, T 5 j = 0 ∨ T 5 j = 1) ∧ (∀ j, T 8 j = 0 ∨ T 8 j = 1) ∧ T 0 0 = 0 ∧
  (∀ t, 0 < t → t ≤ n → rw_C (T 0 t) (T 1 t) (T 2 t) (T 3 t) (T 4 t) den t (den t)) ∧
  (∀ t u, 0 < t → t ≤ n → 0 < u → u ≤ n → den t = den u → t = u) ∧
  (∀ t, 0 < t → t ≤ n → kv T t (T 5 t)) ∧
  (∀ t, 0 < t → t ≤ n → ∃ x, x < t ∧ T 6 t = nI x ∧ (x = 0 ∨ bkT T x = bkT T t) ∧ ∀ u, x < u → u < t → bkT T u ≠ bkT T t) ∧
  (∀ j, j < 128 → ∃ x, x ≤ n ∧ T 7 j = nI x ∧ (x = 0 ∨ bkT T x = nI j) ∧ ∀ u, x < u → u ≤ n → bkT T u ≠ nI j)
/-- the class's table holds the terms den 1 .. den n; the keys 1 .. k are made, G is given -/
def tOK (h : zH) (n k : Nat) (den : Nat → zT) (G : Nat → Int32) : Prop := ∃ T, tS h T n k ∧ TI T n k den ∧ T 8 = G
def fr (lo hi : Nat) (h h' : zH) : Prop := (∀ a, ¬ (lo ≤ a ∧ a ≤ hi) → h'.1 a = h.1 a) ∧ h'.2 = h.2
theorem fr.rf {lo hi : Nat} {h : zH} : fr lo hi h h := ⟨fun _ _ => rfl, rfl⟩
theorem fr.tr {lo hi : Nat} {h h1 h2 : zH} (a : fr lo hi h h1) (b : fr lo hi h1 h2) : fr lo hi h h2 := ⟨fun q hq => (b.1 q hq).trans (a.1 q hq), b.2.trans a.2⟩
def mkT (T : Nat → Nat → Int32) (m : Nat) (kk a b c e : Int32) : Nat → Nat → Int32 := fun i => match i with
  | 0 => upd (T 0) m kk
  | 1 => upd (T 1) m a
  | 2 => upd (T 2) m b
  | 3 => upd (T 3) m c
  | 4 => upd (T 4) m e
  | i => T i
def mkT2 (T : Nat → Nat → Int32) (m : Nat) (kk a b c e v : Int32) (j : Nat) : Nat → Nat → Int32 := fun i => match i with
  | 0 => upd (T 0) m kk
  | 1 => upd (T 1) m a
  | 2 => upd (T 2) m b
  | 3 => upd (T 3) m c
  | 4 => upd (T 4) m e
  | 5 => upd (T 5) m v
  | 6 => upd (T 6) m (T 7 j)
  | 7 => upd (T 7) j (nI m)
  | i => T i
theorem upd_n {f : Nat → Int32} {m t : Nat} {x : Int32} (h : ¬ t = m) : upd f m x t = f t := if_neg h
theorem upd_s {f : Nat → Int32} {m : Nat} {x : Int32} : upd f m x m = x := if_pos rfl
theorem jg_same {T T' : Nat → Nat → Int32} {t : Nat} {den : Nat → zT} {m : Nat} {τ : zT} (hm : m ≤ 720) (h0 : T' 0 t = T 0 t) (h1 : T' 1 t = T 1 t) (h2 : T' 2 t = T 2 t) (h8 : T' 8 = T 8) (h5 : ∀ x, x < m → T' 5 x = T 5 x) (hr : rw_C (T 0 t) (T 1 t) (T 2 t) (T 3 t) (T 4 t) den m τ) : jg T' t ↔ jg T t := by
  unfold jg
  rw [h0, h1, h2, h8]
  rcases hr with ⟨hk, -⟩ | ⟨hk, -⟩ | ⟨hk, -⟩ | ⟨hk, x, y, hx, hxm, hy, hym, ha, hb, -⟩ | ⟨hk, x, hx, hxm, ha, -⟩ | ⟨hk, -⟩
  · rw [hk]; constructor <;> intro q <;> exact ⟨fun z => absurd z (by decide), fun z => absurd z (by decide), fun z => absurd z (by decide)⟩
  · rw [hk]; constructor <;> intro q <;> exact ⟨fun z => absurd z (by decide), fun z => absurd z (by decide), fun z => absurd z (by decide)⟩
  · rw [hk]; constructor <;> intro q <;> exact ⟨q.1, fun z => absurd z (by decide), fun z => absurd z (by decide)⟩
  · rw [ha, hb, nI_clamp (show x < 2 ^ 31 by omega), nI_clamp (show y < 2 ^ 31 by omega), h5 x hxm, h5 y hym]
  · rw [ha, nI_clamp (show x < 2 ^ 31 by omega), h5 x hxm, hk]
    constructor <;> intro q <;> exact ⟨fun z => absurd z (by decide), fun z => absurd z (by decide), q.2.2⟩
  · rw [hk]; constructor <;> intro q <;> exact ⟨fun z => absurd z (by decide), fun z => absurd z (by decide), fun z => absurd z (by decide)⟩
theorem kv01 {T : Nat → Nat → Int32} {t : Nat} {v : Int32} (h : kv T t v) : v = 0 ∨ v = 1 := h.elim (fun q => Or.inr q.1) (fun q => Or.inl q.1)
theorem TI_make {T : Nat → Nat → Int32} {n k j : Nat} {den : Nat → zT} {τ : zT} {kk a b c e v : Int32} (hI : TI T n k den) (hn : n < 719) (hr : rw_C kk a b c e den (n + 1) τ) (hj : j < 128) (hb : bkt kk a b c e = nI j) (hno : ∀ u, 0 < u → u ≤ n → ¬ (T 0 u = kk ∧ T 1 u = a ∧ T 2 u = b ∧ T 3 u = c ∧ T 4 u = e)) (hv : kv (mkT T (n + 1) kk a b c e) (n + 1) v) : TI (mkT2 T (n + 1) kk a b c e v j) (n + 1) k (fun u => if u = n + 1 then τ else den u) := by
  obtain ⟨i1, i2, i3, i4, i5, i6, i7, i8, i9, i10⟩ := hI
  have hden : ∀ x, 0 < x → x < n + 1 → (fun u => if u = n + 1 then τ else den u) x = den x := fun x _ hx => if_neg (by omega)
  have hrow : ∀ t, 0 < t → t ≤ n → mkT2 T (n + 1) kk a b c e v j 0 t = T 0 t ∧ mkT2 T (n + 1) kk a b c e v j 1 t = T 1 t ∧ mkT2 T (n + 1) kk a b c e v j 2 t = T 2 t ∧ mkT2 T (n + 1) kk a b c e v j 3 t = T 3 t ∧ mkT2 T (n + 1) kk a b c e v j 4 t = T 4 t ∧ mkT2 T (n + 1) kk a b c e v j 5 t = T 5 t ∧ mkT2 T (n + 1) kk a b c e v j 6 t = T 6 t := fun t _ ht => ⟨upd_n (by omega), upd_n (by omega), upd_n (by omega), upd_n (by omega), upd_n (by omega), upd_n (by omega), upd_n (by omega)⟩
  have hbk : ∀ t, 0 < t → t ≤ n → bkT (mkT2 T (n + 1) kk a b c e v j) t = bkT T t := fun t h1 h2 => by
    obtain ⟨q0, q1, q2, q3, q4, -, -⟩ := hrow t h1 h2
    unfold bkT
    rw [q0, q1, q2, q3, q4]
  have hbk1 : bkT (mkT2 T (n + 1) kk a b c e v j) (n + 1) = nI j := by
    unfold bkT
    show bkt (upd (T 0) (n + 1) kk (n + 1)) (upd (T 1) (n + 1) a (n + 1)) (upd (T 2) (n + 1) b (n + 1)) (upd (T 3) (n + 1) c (n + 1)) (upd (T 4) (n + 1) e (n + 1)) = _
    rw [upd_s, upd_s, upd_s, upd_s, upd_s, hb]
  refine ⟨by omega, i2, fun x => ?_, i4, ?_, fun t h1 h2 => ?_, fun t u h1 h2 h3 h4 htu => ?_, fun t h1 h2 => ?_, fun t h1 h2 => ?_, fun q hq => ?_⟩
  · show upd (T 5) (n + 1) v x = 0 ∨ upd (T 5) (n + 1) v x = 1
    by_cases hx : x = n + 1
    · rw [hx, upd_s]
      exact kv01 hv
    · rw [upd_n hx]
      exact i3 x
  · show upd (T 0) (n + 1) kk 0 = 0
    rw [upd_n (by omega)]
    exact i5
  · by_cases ht : t = n + 1
    · subst ht
      show rw_C (upd (T 0) (n + 1) kk (n + 1)) (upd (T 1) (n + 1) a (n + 1)) (upd (T 2) (n + 1) b (n + 1)) (upd (T 3) (n + 1) c (n + 1)) (upd (T 4) (n + 1) e (n + 1)) _ _ (if n + 1 = n + 1 then τ else den (n + 1))
      rw [upd_s, upd_s, upd_s, upd_s, upd_s, if_pos rfl]
      exact rw_C_mono hr (Nat.le_refl _) hden
    · obtain ⟨q0, q1, q2, q3, q4, -, -⟩ := hrow t h1 (by omega)
      rw [q0, q1, q2, q3, q4]
      show rw_C _ _ _ _ _ _ _ (if t = n + 1 then τ else den t)
      rw [if_neg ht]
      exact rw_C_mono (i6 t h1 (by omega)) (Nat.le_refl _) (fun x hx1 hx2 => hden x hx1 (by omega))
  · have key : ∀ t, 0 < t → t ≤ n → den t ≠ τ := fun t h1 h2 e9 => by
      have h3 := i6 t h1 h2
      rw [e9] at h3
      have h4 := rw_C_inj i7 (by omega) (Nat.le_refl _) h3 hr
      exact hno t h1 h2 h4
    dsimp only at htu
    by_cases ht : t = n + 1 <;> by_cases hu : u = n + 1
    · omega
    · rw [if_pos ht, if_neg hu] at htu
      exact absurd htu.symm (key u h3 (by omega))
    · rw [if_neg ht, if_pos hu] at htu
      exact absurd htu (key t h1 (by omega))
    · rw [if_neg ht, if_neg hu] at htu
      exact i7 t u h1 (by omega) h3 (by omega) htu
  · by_cases ht : t = n + 1
    · subst ht
      show kv _ _ (upd (T 5) (n + 1) v (n + 1))
      rw [upd_s]
      have hj1 : jg (mkT2 T (n + 1) kk a b c e v j) (n + 1) ↔ jg (mkT T (n + 1) kk a b c e) (n + 1) := by
        refine jg_same (den := den) (m := n + 1) (τ := τ) (by omega) rfl rfl rfl rfl (fun x hx => ?_) ?_
        · show upd (T 5) (n + 1) v x = T 5 x
          exact upd_n (by omega)
        · show rw_C (upd (T 0) (n + 1) kk (n + 1)) (upd (T 1) (n + 1) a (n + 1)) (upd (T 2) (n + 1) b (n + 1)) (upd (T 3) (n + 1) c (n + 1)) (upd (T 4) (n + 1) e (n + 1)) _ _ _
          rw [upd_s, upd_s, upd_s, upd_s, upd_s]
          exact hr
      unfold kv at hv ⊢
      rw [hj1]
      exact hv
    · obtain ⟨q0, q1, q2, q3, q4, q5, -⟩ := hrow t h1 (by omega)
      rw [q5]
      have hj1 : jg (mkT2 T (n + 1) kk a b c e v j) t ↔ jg T t := jg_same (den := den) (m := t) (τ := den t) (by omega) q0 q1 q2 rfl (fun x hx => by
        show upd (T 5) (n + 1) v x = T 5 x
        exact upd_n (by omega)) (i6 t h1 (by omega))
      have := i8 t h1 (by omega)
      unfold kv at this ⊢
      rw [hj1]
      exact this
  · by_cases ht : t = n + 1
    · subst ht
      obtain ⟨x, hx, hx7, hxb, hxu⟩ := i10 j hj
      refine ⟨x, by omega, ?_, ?_, fun u hu1 hu2 => ?_⟩
      · show upd (T 6) (n + 1) (T 7 j) (n + 1) = _
        rw [upd_s]
        exact hx7
      · rcases hxb with hxb | hxb
        · exact Or.inl hxb
        · by_cases hx0 : x = 0
          · exact Or.inl hx0
          · right
            rw [hbk x (by omega) hx, hbk1]
            exact hxb
      · rw [hbk u (by omega) (by omega), hbk1]
        exact hxu u hu1 (by omega)
    · obtain ⟨x, hx, hx6, hxb, hxu⟩ := i9 t h1 (by omega)
      obtain ⟨-, -, -, -, -, -, q6⟩ := hrow t h1 (by omega)
      refine ⟨x, hx, by rw [q6]; exact hx6, ?_, fun u hu1 hu2 => ?_⟩
      · by_cases hx0 : x = 0
        · exact Or.inl hx0
        · right
          rw [hbk x (by omega) (by omega), hbk t h1 (by omega)]
          exact hxb.resolve_left hx0
      · rw [hbk u (by omega) (by omega), hbk t h1 (by omega)]
        exact hxu u hu1 hu2
  · by_cases hqj : q = j
    · subst hqj
      refine ⟨n + 1, Nat.le_refl _, upd_s, Or.inr hbk1, fun u hu1 hu2 => absurd hu2 (by omega)⟩
    · obtain ⟨x, hx, hx7, hxb, hxu⟩ := i10 q hq
      refine ⟨x, by omega, ?_, ?_, fun u hu1 hu2 => ?_⟩
      · show upd (T 7) j (nI (n + 1)) q = _
        rw [upd_n hqj]
        exact hx7
      · by_cases hx0 : x = 0
        · exact Or.inl hx0
        · right
          rw [hbk x (by omega) hx]
          exact hxb.resolve_left hx0
      · by_cases hu : u = n + 1
        · subst hu
          rw [hbk1]
          intro e9
          exact hqj (nI_inj (by omega) (by omega) e9).symm
        · rw [hbk u (by omega) (by omega)]
          exact hxu u hu1 (by omega)
