/-! Cells: fields, arrays, what is made. -/
theorem z_tyk (g : zG) (k : Nat) (hk : k < 5) : ∃ ty, (z_tys g)[k]? = some (g_A g k, ty) := by
  rcases (show k = 0 ∨ k = 1 ∨ k = 2 ∨ k = 3 ∨ k = 4 by omega) with rfl | rfl | rfl | rfl | rfl <;> exact ⟨_, rfl⟩
theorem z_ltR {h : zH} {a : Nat} {o : Nat × List Value} (hz : ∀ q : Nat, h.2 ≤ q → h.1 q = z_def) (ha : h.1 a = .inr o) : a < h.2 := by
  by_cases hl : a < h.2
  · exact hl
  · have e := (hz a (Nat.not_lt.mp hl)).symm.trans ha
    unfold z_def at e
    cases e
theorem z_ltL {h : zH} {a k n : Nat} {x : (Nat → Int32) ⊕ (Nat → Int64) ⊕ (Nat → UInt32) ⊕ (Nat → UInt64) ⊕ (Nat → Option Nat)} (hz : ∀ q : Nat, h.2 ≤ q → h.1 q = z_def) (ha : h.1 a = .inl (k, n, x)) (hn : 0 < n) : a < h.2 := by
  by_cases hl : a < h.2
  · exact hl
  · have e := (hz a (Nat.not_lt.mp hl)).symm.trans ha
    unfold z_def at e
    cases e
    exact absurd hn (Nat.lt_irrefl 0)
theorem z_inpos {i : Int32} {n : Nat} (h : vp_in i n) : 0 < n := by
  by_cases hn : n = 0
  · exact absurd (Or.inr (by rw [hn]; exact Nat.zero_le _)) h
  · omega
theorem z_up_z {h : zH} {a : Nat} {e : va_E} (hl : a < h.2) (hz : ∀ q : Nat, h.2 ≤ q → h.1 q = z_def) : ∀ q : Nat, h.2 ≤ q → va_up h.1 a e q = z_def := by
  intro q hq
  unfold va_up
  rw [if_neg (by omega)]
  exact hz q hq
/-- a cell is changed -/
theorem z_Wh.cell {g : zG} {h : zH} {H H1 : Heap} {a : Nat} {e : va_E} (hw : z_Wh g h H) (hl : a < h.2) (hz1 : H1.size = H.size) (hat : va_at (g_D g) vwCl (g_b g + a, z_ce g e) H1) (oq : ∀ q : Nat, q ≠ g_b g + a → H1[q]? = H[q]?) : z_Wh g (va_up h.1 a e, h.2) H1 :=
  ⟨hz1.trans hw.1, by rw [← z_ws_set e hl]; exact hw.2.1.set (z_dis g h) (z_ws_at hl) hat oq, z_up_z hl hw.2.2⟩
/-- a cell is made -/
theorem z_Wh.make {g : zG} {h : zH} {H H1 : Heap} {e : va_E} (hw : z_Wh g h H) (hz1 : H1.size = H.size + 1) (hat : va_at (g_D g) vwCl (H.size, z_ce g e) H1) (oq : ∀ q : Nat, q < H.size → H1[q]? = H[q]?) : z_Wh g (va_up h.1 h.2 e, h.2 + 1) H1 := by
  refine ⟨by rw [hz1, hw.1]; rfl, ?_, fun q hq => ?_⟩
  · rw [← z_ws_push e]
    refine (hw.2.1.kept (fun k q hk => oq q.1 (hw.2.1 k q hk).lt)).app (fun k q hk => ?_)
    have hz : k < 1 := (List.getElem?_eq_some_iff.mp hk).1
    rw [show k = 0 by omega] at hk
    cases hk
    rw [← hw.1]
    exact hat
  · have h1 : h.2 + 1 ≤ q := hq
    show va_up h.1 h.2 e q = z_def
    unfold va_up
    rw [if_neg (by omega)]
    exact hw.2.2 q (by omega)
theorem z_S_make {A : Nat → Prop} {H0 H H1 : Heap} {locs : List Loc} (hS : va_S A H0 H locs) (hz1 : H1.size = H.size + 1) (oq : ∀ q : Nat, q < H.size → H1[q]? = H[q]?) : va_S A H0 H1 locs :=
  ⟨Nat.le_trans hS.1 (by omega), fun q h1 h2 => (oq q (Nat.lt_of_lt_of_le h1 hS.1)).trans (hS.2.1 q h1 h2), hS.2.2⟩
section ZS2
variable {tab : List zR} {g : zG} {d : Nat} {p : Program} {l : Launch} {e : Env} {R : Room} {s : State} {m : MethodId} {args : Array Value} {below : List Frame} {meth : Method} {c : Code} {Q : State → Prop} {cc : ByteArray} {own : String} {nL : Nat} {P : zP} {pc : Nat}
theorem z_getf {E : zE} {L : zLc} {st : List Value} {q : zH × Nat × Nat} {Y : zC → Prop} {ci k : Nat} (h : i_getf ci k E (pc, L, st, q) Y P) : ∃ (a : Nat) (r fs : List Value) (v : Value), st = .ref a :: r ∧ q.1.1 a = .inr (ci, fs) ∧ fs[k]? = some v ∧ Y (pc + 3, L, v :: r, q) := by
  unfold i_getf at h
  dsimp only at h
  split at h
  · next a r =>
    split at h
    · next o ho =>
      obtain ⟨h1, h2⟩ := h
      split at h2
      · next v hv => exact ⟨a, r, o.2, v, rfl, by rw [ho, ← h1], hv, h2⟩
      · exact h2.elim
    · exact h.elim
  · exact h.elim
theorem S_getf (cx : z_cx tab g d p l e R s m args below meth c cc own nL) {ci k ix N : Nat} {C : String} {T : u_T} (hc : vwCl[ci]? = some (C, T, N)) (hin : ∀ w ∈ u_ws C T N, w ∈ z_WS) (hk : k < N) (hT : (T k).1 = C) (hl : Cond.fieldLink own ix C (T k).2.1 (T k).2.2.1 ∈ z_WS) (hd : decode cc pc = .ok (.getfield ix, 3)) : z_sn tab g d p l e R s m args below meth c Q nL P (pc, i_getf ci k) := by
  intro L st h uc us Y hi hY H locs ls hR
  dsimp only at hi hR ⊢
  obtain ⟨a, r, fs, v, rfl, ha, hv, hi⟩ := z_getf hi
  have hlt := z_ltR hR.1.2.2 ha
  have he : (z_ws g h)[a]? = some (g_b g + a, .inr (ci, fs.map (z_tr g))) := by rw [z_ws_at hlt, ha]; rfl
  exact va_get (D := g_D g) cx.1 cx.2.1 cx.2.2.2.2.1 hin cx.2.2.2.1 cx.2.2.2.2.2.1.1 hR.1.2.1 a he hc k hk (cx.2.2.2.2.1 _ hl) (fun x hx => by rw [hT] at hx; exact hx) (v := z_tr g v) (by rw [List.getElem?_map, hv]; rfl) hd (hY _ hi H locs ls hR)
theorem S_getfN (cx : z_cx tab g d p l e R s m args below meth c cc own nL) {ci k ix N : Nat} {C host : String} {T : u_T} (hc : vwCl[ci]? = some (C, T, N)) (hin : ∀ w ∈ u_ws C T N, w ∈ z_WS) (hk : k < N) (hT : (T k).1 = C) (hl : Cond.fieldLinkNest own ix C (T k).2.1 (T k).2.2.1 host ∈ z_NW) (hd : decode cc pc = .ok (.getfield ix, 3)) : z_sn tab g d p l e R s m args below meth c Q nL P (pc, i_getf ci k) := by
  intro L st h uc us Y hi hY H locs ls hR
  dsimp only at hi hR ⊢
  obtain ⟨a, r, fs, v, rfl, ha, hv, hi⟩ := z_getf hi
  have hlt := z_ltR hR.1.2.2 ha
  have he : (z_ws g h)[a]? = some (g_b g + a, .inr (ci, fs.map (z_tr g))) := by rw [z_ws_at hlt, ha]; rfl
  exact va_getN (D := g_D g) cx.1 cx.2.1 cx.2.2.2.2.1 hin cx.2.2.2.1 cx.2.2.2.2.2.1.1 hR.1.2.1 a he hc k hk (va_Nw.use rfl (cx.2.2.2.2.2.1.2.1 _ hl)) (fun x hx => by rw [hT] at hx; exact hx) (v := z_tr g v) (by rw [List.getElem?_map, hv]; rfl) hd (hY _ hi H locs ls hR)
def z_zty (z : Nat) (ty : FieldType) : Prop := (z = 0 ∧ ty = .int) ∨ (z = 1 ∧ ty = .boolean) ∨ (z = 2 ∧ ((∃ n, ty = .object n) ∨ ∃ t, ty = .array t))
theorem z_fit_ok {z : Nat} {ty : FieldType} {v : Value} (hz : z_zty z ty) (hf : z_fit z v) : narrow ty (z_tr g v) = z_tr g v ∧ fits ty (z_tr g v) = true := by
  cases v with
  | int x =>
    rcases hz with ⟨rfl, rfl⟩ | ⟨rfl, rfl⟩ | ⟨rfl, hz⟩
    · exact ⟨rfl, rfl⟩
    · rcases hf with hf | ⟨-, rfl | rfl⟩
      · cases hf
      · show narrow .boolean (.int 0) = .int 0 ∧ fits .boolean (.int 0) = true
        decide
      · show narrow .boolean (.int 1) = .int 1 ∧ fits .boolean (.int 1) = true
        decide
    · rcases hf with hf | ⟨hf, -⟩ <;> cases hf
  | ref a =>
    rcases hz with ⟨rfl, rfl⟩ | ⟨rfl, rfl⟩ | ⟨rfl, ⟨n, rfl⟩ | ⟨t, rfl⟩⟩
    · cases hf
    · cases hf
    · exact ⟨rfl, rfl⟩
    · exact ⟨rfl, rfl⟩
  | null =>
    rcases hz with ⟨rfl, rfl⟩ | ⟨rfl, rfl⟩ | ⟨rfl, ⟨n, rfl⟩ | ⟨t, rfl⟩⟩
    · cases hf
    · cases hf
    · exact ⟨rfl, rfl⟩
    · exact ⟨rfl, rfl⟩
  | _ => exact hf.elim
theorem z_putf {E : zE} {L : zLc} {st : List Value} {q : zH × Nat × Nat} {Y : zC → Prop} {ci k z : Nat} (h : i_putf ci k z E (pc, L, st, q) Y P) : ∃ (v : Value) (a : Nat) (r fs : List Value), st = v :: .ref a :: r ∧ q.1.1 a = .inr (ci, fs) ∧ k < fs.length ∧ z_fit z v ∧ Y (pc + 3, L, r, (va_up q.1.1 a (.inr (ci, fs.set k v)), q.1.2), q.2) := by
  unfold i_putf at h
  dsimp only at h
  split at h
  · next v a r =>
    split at h
    · next o ho =>
      obtain ⟨h1, h2, h3, h4⟩ := h
      rw [h1] at h4
      exact ⟨v, a, r, o.2, rfl, by rw [ho, ← h1], h2, h3, h4⟩
    · exact h.elim
  · exact h.elim

theorem S_putf (cx : z_cx tab g d p l e R s m args below meth c cc own nL) {ci k z ix N : Nat} {C : String} {T : u_T} {ty : Nat → FieldType} (hc : vwCl[ci]? = some (C, T, N)) (hin : ∀ w ∈ u_ws C T N, w ∈ z_WS) (hty : ∀ k, k < N → parseFieldDescriptor (T k).2.2.1 = some (ty k)) (hnm : ∀ a, a < N → ∀ b, b < N → a ≠ b → (T a).2.1 ≠ (T b).2.1) (hk : k < N) (hT : (T k).1 = C) (hl : Cond.fieldLink own ix C (T k).2.1 (T k).2.2.1 ∈ z_WS) (hfin : (T k).2.2.2 = false) (hz : z_zty z (ty k)) (hd : decode cc pc = .ok (.putfield ix, 3)) : z_sn tab g d p l e R s m args below meth c Q nL P (pc, i_putf ci k z) := by
  intro L st h uc us Y hi hY H locs ls hR
  dsimp only at hi hR ⊢
  obtain ⟨v, a, r, fs, rfl, ha, hkl, hf, hi⟩ := z_putf hi
  have hlt := z_ltR hR.1.2.2 ha
  have he : (z_ws g h)[a]? = some (g_b g + a, .inr (ci, fs.map (z_tr g))) := by rw [z_ws_at hlt, ha]; rfl
  have hf2 := z_fit_ok (g := g) hz hf
  have hts := cx.2.2.2.2.1
  have hK := cx.2.2.2.2.2.1.1
  have hap := va_apart (own := own) hts hin ty hty hnm hK hc
  obtain ⟨r0, h1, cell, q1, q2, q3, q4⟩ := hR.1.2.1 a _ he
  have hr0 : r0 = (C, T, N) := Option.some.inj (h1.symm.trans hc)
  subst hr0
  obtain ⟨hSl, hfc, kC, hkC, hkind⟩ := hK.1 ci _ hc
  obtain ⟨cf, kf, fi, f, hfi, hsl⟩ := hSl k hk
  have hst := (u_facts hfc hkC (u_lays hts hin hk) hfi).1
  have hlay := hts _ (hin _ (u_in_lay hk))
  unfold u_lay at hlay
  have hfi2 : s.fieldFound? C (T k).2.1 (T k).2.2.1 = some (cf, kf, fi, f) := by rw [← hT]; exact hfi
  rw [if_neg (by rw [hfin]; decide)] at hlay
  have h6 := u_store hfc hkC hkind hlay hfi (hty k hk) hf2.1 hf2.2
  refine W.putK cx.1 cx.2.1 (f := f) ⟨cx.2.2.2.1, hts _ hl, ⟨_, _, _, hfi2⟩, hst⟩ (v := z_tr g v) (by rw [q2]; exact h6) q1 q3 (by rw [hsl]; exact k2_hasslot (q4 k hk)) rfl rfl hd fun H1 e1 e2 e3 => ?_
  rw [hsl] at e1
  refine hY _ hi H1 _ ls ⟨hR.1.cell hlt e2 ?_ e3, hR.2.1.put e2 e3 (Nat.le_add_right _ _), hR.2.2⟩
  refine ⟨_, hc, t_OB.to (V := updV (vp_V (fs.map (z_tr g))) k (z_tr g v)) ⟨_, e1, q2, q3, t_set q4 hap hk (z_tr g v)⟩ (fun j _ => ?_)⟩
  show _ = vp_V ((fs.set k v).map (z_tr g)) j
  rw [List.map_set]
  exact vp_updV_set (by rw [List.length_map]; exact hkl) (z_tr g v) j
theorem S_putfN (cx : z_cx tab g d p l e R s m args below meth c cc own nL) {ci k z ix N : Nat} {C : String} {T : u_T} {ty : Nat → FieldType} (hc : vwCl[ci]? = some (C, T, N)) (hin : ∀ w ∈ u_ws C T N, w ∈ z_WS) (hty : ∀ k, k < N → parseFieldDescriptor (T k).2.2.1 = some (ty k)) (hnm : ∀ a, a < N → ∀ b, b < N → a ≠ b → (T a).2.1 ≠ (T b).2.1) (hk : k < N) (hT : (T k).1 = C) {host : String} (hl : Cond.fieldLinkNest own ix C (T k).2.1 (T k).2.2.1 host ∈ z_NW) (hfin : (T k).2.2.2 = false) (hz : z_zty z (ty k)) (hd : decode cc pc = .ok (.putfield ix, 3)) : z_sn tab g d p l e R s m args below meth c Q nL P (pc, i_putf ci k z) := by
  intro L st h uc us Y hi hY H locs ls hR
  dsimp only at hi hR ⊢
  obtain ⟨v, a, r, fs, rfl, ha, hkl, hf, hi⟩ := z_putf hi
  have hlt := z_ltR hR.1.2.2 ha
  have he : (z_ws g h)[a]? = some (g_b g + a, .inr (ci, fs.map (z_tr g))) := by rw [z_ws_at hlt, ha]; rfl
  have hf2 := z_fit_ok (g := g) hz hf
  have hts := cx.2.2.2.2.1
  have hK := cx.2.2.2.2.2.1.1
  have hap := va_apart (own := own) hts hin ty hty hnm hK hc
  obtain ⟨r0, h1, cell, q1, q2, q3, q4⟩ := hR.1.2.1 a _ he
  have hr0 : r0 = (C, T, N) := Option.some.inj (h1.symm.trans hc)
  subst hr0
  obtain ⟨hSl, hfc, kC, hkC, hkind⟩ := hK.1 ci _ hc
  obtain ⟨cf, kf, fi, f, hfi, hsl⟩ := hSl k hk
  have hst := (u_facts hfc hkC (u_lays hts hin hk) hfi).1
  have hlay := hts _ (hin _ (u_in_lay hk))
  unfold u_lay at hlay
  have hfi2 : s.fieldFound? C (T k).2.1 (T k).2.2.1 = some (cf, kf, fi, f) := by rw [← hT]; exact hfi
  rw [if_neg (by rw [hfin]; decide)] at hlay
  have h6 := u_store hfc hkC hkind hlay hfi (hty k hk) hf2.1 hf2.2
  refine va_WputK cx.1 cx.2.1 (f := f) cx.2.2.2.1 (va_Nw.use rfl (cx.2.2.2.2.2.1.2.1 _ hl)) hfi2 hst (v := z_tr g v) (by rw [q2]; exact h6) q1 q3 (by rw [hsl]; exact k2_hasslot (q4 k hk)) rfl rfl hd fun H1 e1 e2 e3 => ?_
  rw [hsl] at e1
  refine hY _ hi H1 _ ls ⟨hR.1.cell hlt e2 ?_ e3, hR.2.1.put e2 e3 (Nat.le_add_right _ _), hR.2.2⟩
  refine ⟨_, hc, t_OB.to (V := updV (vp_V (fs.map (z_tr g))) k (z_tr g v)) ⟨_, e1, q2, q3, t_set q4 hap hk (z_tr g v)⟩ (fun j _ => ?_)⟩
  show _ = vp_V ((fs.set k v).map (z_tr g)) j
  rw [List.map_set]
  exact vp_updV_set (by rw [List.length_map]; exact hkl) (z_tr g v) j
theorem S_putF (cx : z_cx tab g d p l e R s m args below meth c cc own nL) {ci k z ix N : Nat} {C : String} {T : u_T} {ty : Nat → FieldType} (hc : vwCl[ci]? = some (C, T, N)) (hin : ∀ w ∈ u_ws C T N, w ∈ z_WS) (hty : ∀ k, k < N → parseFieldDescriptor (T k).2.2.1 = some (ty k)) (hnm : ∀ a, a < N → ∀ b, b < N → a ≠ b → (T a).2.1 ≠ (T b).2.1) (hk : k < N) (hT : (T k).1 = C) (hl : Cond.fieldLink own ix C (T k).2.1 (T k).2.2.1 ∈ z_WS) (hfin : (T k).2.2.2 = true) (hini : meth.name = "<init>") (hdecl : (T k).1 = own) (hz : z_zty z (ty k)) (hd : decode cc pc = .ok (.putfield ix, 3)) : z_sn tab g d p l e R s m args below meth c Q nL P (pc, i_putf ci k z) := by
  intro L st h uc us Y hi hY H locs ls hR
  dsimp only at hi hR ⊢
  obtain ⟨v, a, r, fs, rfl, ha, hkl, hf, hi⟩ := z_putf hi
  have hlt := z_ltR hR.1.2.2 ha
  have he : (z_ws g h)[a]? = some (g_b g + a, .inr (ci, fs.map (z_tr g))) := by rw [z_ws_at hlt, ha]; rfl
  have hf2 := z_fit_ok (g := g) hz hf
  have hts := cx.2.2.2.2.1
  have hK := cx.2.2.2.2.2.1.1
  have hap := va_apart (own := own) hts hin ty hty hnm hK hc
  obtain ⟨r0, h1, cell, q1, q2, q3, q4⟩ := hR.1.2.1 a _ he
  have hr0 : r0 = (C, T, N) := Option.some.inj (h1.symm.trans hc)
  subst hr0
  obtain ⟨hSl, hfc, kC, hkC, hkind⟩ := hK.1 ci _ hc
  obtain ⟨cf, kf, fi, f, hfi, hsl⟩ := hSl k hk
  have hst := (u_facts hfc hkC (u_lays hts hin hk) hfi).1
  have hlay := hts _ (hin _ (u_in_lay hk))
  unfold u_lay at hlay
  have hfi2 : s.fieldFound? C (T k).2.1 (T k).2.2.1 = some (cf, kf, fi, f) := by rw [← hT]; exact hfi
  rw [if_pos hfin] at hlay
  have hcf : m.cls = cf := by
    obtain ⟨_, _, c', _, _, _, -, -, hf', -, -, -, hown2, -⟩ := Cond.laysFinal_spec hlay
    have e9 : c' = cf := by have := hfi.symm.trans hf'; simp at this; exact this.1.symm
    rw [hdecl] at hown2
    rw [← e9]; exact Option.some.inj (cx.2.2.2.1.symm.trans hown2)
  have h6 := u_fits hfc hkC hkind (Or.inr hlay) hfi (hty k hk) hf2.1 hf2.2
  refine W.putFinK cx.1 cx.2.1 cx.2.2.2.1 (hts _ hl) hfi2 hst hcf hini (v := z_tr g v) (by rw [q2]; exact h6) q1 q3 (by rw [hsl]; exact k2_hasslot (q4 k hk)) rfl rfl hd fun H1 e1 e2 e3 => ?_
  rw [hsl] at e1
  refine hY _ hi H1 _ ls ⟨hR.1.cell hlt e2 ?_ e3, hR.2.1.put e2 e3 (Nat.le_add_right _ _), hR.2.2⟩
  refine ⟨_, hc, t_OB.to (V := updV (vp_V (fs.map (z_tr g))) k (z_tr g v)) ⟨_, e1, q2, q3, t_set q4 hap hk (z_tr g v)⟩ (fun j _ => ?_)⟩
  show _ = vp_V ((fs.set k v).map (z_tr g)) j
  rw [List.map_set]
  exact vp_updV_set (by rw [List.length_map]; exact hkl) (z_tr g v) j
theorem S_gets (cx : z_cx tab g d p l e R s m args below meth c cc own nL) {ix : Nat} (hl : Cond.fieldLink own ix z_RA "TOKENS" "[I" ∈ z_WS) (hd : decode cc pc = .ok (.getstatic ix, 3)) : z_sn tab g d p l e R s m args below meth c Q nL P (pc, i_gets) := by
  intro L st h uc us Y hi hY H locs ls hR
  dsimp only at hi hR ⊢
  exact va_gets cx.1 cx.2.1 cx.2.2.2.2.2.2.1.1 hR.2.1 cx.2.2.2.1 (cx.2.2.2.2.1 _ hl) (fun _ h9 => h9) hd (hY _ hi H locs ls hR)
theorem z_nald {E : zE} {L : zLc} {st : List Value} {q : zH × Nat × Nat} {Y : zC → Prop} {kd : Nat} (h : i_nald kd E (pc, L, st, q) Y P) : (∃ (i : Int32) (a n : Nat) (r : List Value) (f : Nat → Int32), st = .int i :: .ref a :: r ∧ q.1.1 a = .inl (kd, n, .inl f) ∧ vp_in i n ∧ Y (pc + 1, L, .int (f i.toNatClampNeg) :: r, q)) ∨ (kd = 0 ∧ ∃ (i : Int32) (r : List Value), (st = .int i :: .retAddr 0 :: r ∧ vp_in i E.2.2.1 ∧ Y (pc + 1, L, .int (E.2.2.2 i.toNatClampNeg) :: r, q)) ∨ (st = .int i :: .retAddr 1 :: r ∧ vp_in i 20 ∧ Y (pc + 1, L, .int (z_tok i.toNatClampNeg) :: r, q))) := by
  unfold i_nald at h
  dsimp only at h
  split at h
  · next i a r =>
    split at h
    · next k n f hf =>
      obtain ⟨h1, h2, h3⟩ := h
      rw [h1] at hf
      exact Or.inl ⟨i, a, n, r, f, rfl, hf, h2, h3⟩
    · exact h.elim
  · next i j r =>
    obtain ⟨h0, ⟨rfl, h1, h2⟩ | ⟨rfl, h1, h2⟩⟩ := h
    · exact Or.inr ⟨h0, i, r, Or.inl ⟨rfl, h1, h2⟩⟩
    · exact Or.inr ⟨h0, i, r, Or.inr ⟨rfl, h1, h2⟩⟩
  · exact h.elim
theorem S_iald (cx : z_cx tab g d p l e R s m args below meth c cc own nL) (hd : decode cc pc = .ok (.iaload, 1)) : z_sn tab g d p l e R s m args below meth c Q nL P (pc, i_nald 0) := by
  intro L st h uc us Y hi hY H locs ls hR
  dsimp only at hi hR ⊢
  rcases z_nald hi with ⟨i, a, n, r, f, rfl, ha, hin, hi⟩ | ⟨-, i, r, ⟨rfl, hin, hi⟩ | ⟨rfl, hin, hi⟩⟩
  · have hlt := z_ltL hR.1.2.2 ha (z_inpos hin)
    have he : (z_ws g h)[a]? = some (g_b g + a, .inl (g_A g 0, n, .inl f)) := by rw [z_ws_at hlt, ha]; rfl
    exact va_iald cx.1 cx.2.1 cx.2.2.2.2.2.1.1 hR.1.2.1 a 0 he rfl hin hd (hY _ hi H locs ls hR)
  · exact va_sld cx.1 cx.2.1 cx.2.2.2.2.2.2.1.2.2.1 (Nat.lt_of_lt_of_le cx.2.2.2.2.2.2.1.2.2.2 cx.2.2.2.2.2.2.2.1) (Nat.not_le.mpr cx.2.2.2.2.2.2.1.2.2.2) hR.2.1 hin hd (hY _ hi H locs ls hR)
  · exact va_ti cx.1 cx.2.1 cx.2.2.2.2.2.2.1.2.1 hR.2.1 hin rfl hd (hY _ hi H locs ls hR)
theorem S_zald (cx : z_cx tab g d p l e R s m args below meth c cc own nL) (hd : decode cc pc = .ok (.baload, 1)) : z_sn tab g d p l e R s m args below meth c Q nL P (pc, i_nald 1) := by
  intro L st h uc us Y hi hY H locs ls hR
  dsimp only at hi hR ⊢
  rcases z_nald hi with ⟨i, a, n, r, f, rfl, ha, hin, hi⟩ | ⟨h0, -⟩
  · have hlt := z_ltL hR.1.2.2 ha (z_inpos hin)
    have he : (z_ws g h)[a]? = some (g_b g + a, .inl (g_A g 1, n, .inl f)) := by rw [z_ws_at hlt, ha]; rfl
    exact va_zald cx.1 cx.2.1 cx.2.2.2.2.2.1.1 hR.1.2.1 a 1 he rfl hin hd (hY _ hi H locs ls hR)
  · cases h0
theorem S_bald (cx : z_cx tab g d p l e R s m args below meth c cc own nL) (hd : decode cc pc = .ok (.baload, 1)) : z_sn tab g d p l e R s m args below meth c Q nL P (pc, i_nald 2) := by
  intro L st h uc us Y hi hY H locs ls hR
  dsimp only at hi hR ⊢
  rcases z_nald hi with ⟨i, a, n, r, f, rfl, ha, hin, hi⟩ | ⟨h0, -⟩
  · have hlt := z_ltL hR.1.2.2 ha (z_inpos hin)
    have he : (z_ws g h)[a]? = some (g_b g + a, .inl (g_A g 2, n, .inl f)) := by rw [z_ws_at hlt, ha]; rfl
    exact va_bald cx.1 cx.2.1 cx.2.2.2.2.2.1.1 hR.1.2.1 a 2 he rfl hin hd (hY _ hi H locs ls hR)
  · cases h0
theorem S_sald (cx : z_cx tab g d p l e R s m args below meth c cc own nL) (hd : decode cc pc = .ok (.saload, 1)) : z_sn tab g d p l e R s m args below meth c Q nL P (pc, i_nald 3) := by
  intro L st h uc us Y hi hY H locs ls hR
  dsimp only at hi hR ⊢
  rcases z_nald hi with ⟨i, a, n, r, f, rfl, ha, hin, hi⟩ | ⟨h0, -⟩
  · have hlt := z_ltL hR.1.2.2 ha (z_inpos hin)
    have he : (z_ws g h)[a]? = some (g_b g + a, .inl (g_A g 3, n, .inl f)) := by rw [z_ws_at hlt, ha]; rfl
    exact va_sald cx.1 cx.2.1 cx.2.2.2.2.2.1.1 hR.1.2.1 a 3 he rfl hin hd (hY _ hi H locs ls hR)
  · cases h0
theorem z_nast {E : zE} {L : zLc} {st : List Value} {q : zH × Nat × Nat} {Y : zC → Prop} {kd : Nat} {F : Int32 → Int32} (h : i_nast kd F E (pc, L, st, q) Y P) : ∃ (x i : Int32) (a n : Nat) (r : List Value) (f : Nat → Int32), st = .int x :: .int i :: .ref a :: r ∧ q.1.1 a = .inl (kd, n, .inl f) ∧ vp_in i n ∧ Y (pc + 1, L, r, (va_up q.1.1 a (.inl (kd, n, .inl (upd f i.toNatClampNeg (F x)))), q.1.2), q.2) := by
  unfold i_nast at h
  dsimp only at h
  split at h
  · next x i a r =>
    split at h
    · next k n f hf =>
      obtain ⟨h1, h2, h3⟩ := h
      rw [h1] at hf h3
      exact ⟨x, i, a, n, r, f, rfl, hf, h2, h3⟩
    · exact h.elim
  · exact h.elim
theorem z_stored {cA : ClassId} {n k : Nat} {f : Nat → Int32} {w : Value} {y : Int32} (hw : w = .int y) : (vp_cell cA (n, .inl f)).setSlot k w = vp_cell cA (n, .inl (upd f k y)) := by
  rw [vp_cell_i, vp_cell_i, arrV_store]
  congr 1
  funext q
  by_cases hq : q = k
  · subst hq
    simp [updV, upd, hw]
  · simp [updV, upd, hq]
theorem S_iast (cx : z_cx tab g d p l e R s m args below meth c cc own nL) (hd : decode cc pc = .ok (.iastore, 1)) : z_sn tab g d p l e R s m args below meth c Q nL P (pc, i_nast 0 (fun x => x)) := by
  intro L st h uc us Y hi hY H locs ls hR
  dsimp only at hi hR ⊢
  obtain ⟨x, i, a, n, r, f, rfl, ha, hin, hi⟩ := z_nast hi
  have hlt := z_ltL hR.1.2.2 ha (z_inpos hin)
  have he : (z_ws g h)[a]? = some (g_b g + a, .inl (g_A g 0, n, .inl f)) := by rw [z_ws_at hlt, ha]; rfl
  refine W.iast cx.1 cx.2.1 (hR.1.2.1 a _ he) ((cx.2.2.2.2.2.1.1.2 0 _ rfl).1 n (fun j => .int (f j))) (fun q => by cases q) (by show ¬ (i < 0 ∨ (arrV _ _ _).slots.size ≤ _); rw [arrV_size]; exact hin) rfl rfl hd fun H1 e1 e2 e3 => ?_
  refine hY _ hi H1 _ ls ⟨hR.1.cell hlt e2 ?_ e3, hR.2.1.put e2 e3 (Nat.le_add_right _ _), hR.2.2⟩
  show H1[g_b g + a]? = some (vp_cell (g_A g 0) (n, .inl (upd f i.toNatClampNeg _)))
  rw [e1]
  exact congrArg some (z_stored rfl)
theorem S_zast (cx : z_cx tab g d p l e R s m args below meth c cc own nL) (hd : decode cc pc = .ok (.bastore, 1)) : z_sn tab g d p l e R s m args below meth c Q nL P (pc, i_nast 1 (fun x => x &&& 1)) := by
  intro L st h uc us Y hi hY H locs ls hR
  dsimp only at hi hR ⊢
  obtain ⟨x, i, a, n, r, f, rfl, ha, hin, hi⟩ := z_nast hi
  have hlt := z_ltL hR.1.2.2 ha (z_inpos hin)
  have he : (z_ws g h)[a]? = some (g_b g + a, .inl (g_A g 1, n, .inl f)) := by rw [z_ws_at hlt, ha]; rfl
  refine W.zast cx.1 cx.2.1 (hR.1.2.1 a _ he) ((cx.2.2.2.2.2.1.1.2 1 _ rfl).1 n (fun j => .int (f j))) (fun q => by cases q) (by show ¬ (i < 0 ∨ (arrV _ _ _).slots.size ≤ _); rw [arrV_size]; exact hin) rfl rfl hd fun H1 e1 e2 e3 => ?_
  refine hY _ hi H1 _ ls ⟨hR.1.cell hlt e2 ?_ e3, hR.2.1.put e2 e3 (Nat.le_add_right _ _), hR.2.2⟩
  show H1[g_b g + a]? = some (vp_cell (g_A g 1) (n, .inl (upd f i.toNatClampNeg _)))
  rw [e1]
  exact congrArg some (z_stored rfl)
theorem S_bast (cx : z_cx tab g d p l e R s m args below meth c cc own nL) (hd : decode cc pc = .ok (.bastore, 1)) : z_sn tab g d p l e R s m args below meth c Q nL P (pc, i_nast 2 (fun x => x.toInt8.toInt32)) := by
  intro L st h uc us Y hi hY H locs ls hR
  dsimp only at hi hR ⊢
  obtain ⟨x, i, a, n, r, f, rfl, ha, hin, hi⟩ := z_nast hi
  have hlt := z_ltL hR.1.2.2 ha (z_inpos hin)
  have he : (z_ws g h)[a]? = some (g_b g + a, .inl (g_A g 2, n, .inl f)) := by rw [z_ws_at hlt, ha]; rfl
  refine W.bast cx.1 cx.2.1 (hR.1.2.1 a _ he) ((cx.2.2.2.2.2.1.1.2 2 _ rfl).1 n (fun j => .int (f j))) (fun q => by cases q) (by show ¬ (i < 0 ∨ (arrV _ _ _).slots.size ≤ _); rw [arrV_size]; exact hin) rfl rfl hd fun H1 e1 e2 e3 => ?_
  refine hY _ hi H1 _ ls ⟨hR.1.cell hlt e2 ?_ e3, hR.2.1.put e2 e3 (Nat.le_add_right _ _), hR.2.2⟩
  show H1[g_b g + a]? = some (vp_cell (g_A g 2) (n, .inl (upd f i.toNatClampNeg _)))
  rw [e1]
  exact congrArg some (z_stored rfl)
theorem S_sast (cx : z_cx tab g d p l e R s m args below meth c cc own nL) (hd : decode cc pc = .ok (.sastore, 1)) : z_sn tab g d p l e R s m args below meth c Q nL P (pc, i_nast 3 (fun x => x.toInt16.toInt32)) := by
  intro L st h uc us Y hi hY H locs ls hR
  dsimp only at hi hR ⊢
  obtain ⟨x, i, a, n, r, f, rfl, ha, hin, hi⟩ := z_nast hi
  have hlt := z_ltL hR.1.2.2 ha (z_inpos hin)
  have he : (z_ws g h)[a]? = some (g_b g + a, .inl (g_A g 3, n, .inl f)) := by rw [z_ws_at hlt, ha]; rfl
  refine W.sast cx.1 cx.2.1 (hR.1.2.1 a _ he) ((cx.2.2.2.2.2.1.1.2 3 _ rfl).1 n (fun j => .int (f j))) (fun q => by cases q) (by show ¬ (i < 0 ∨ (arrV _ _ _).slots.size ≤ _); rw [arrV_size]; exact hin) rfl rfl hd fun H1 e1 e2 e3 => ?_
  refine hY _ hi H1 _ ls ⟨hR.1.cell hlt e2 ?_ e3, hR.2.1.put e2 e3 (Nat.le_add_right _ _), hR.2.2⟩
  show H1[g_b g + a]? = some (vp_cell (g_A g 3) (n, .inl (upd f i.toNatClampNeg _)))
  rw [e1]
  exact congrArg some (z_stored rfl)
theorem S_aald (cx : z_cx tab g d p l e R s m args below meth c cc own nL) (hd : decode cc pc = .ok (.aaload, 1)) : z_sn tab g d p l e R s m args below meth c Q nL P (pc, i_aald) := by
  intro L st h uc us Y hi hY H locs ls hR
  dsimp only at hi hR ⊢
  unfold i_aald at hi
  dsimp only at hi
  split at hi
  · next i a r =>
    split at hi
    · next k n f ha =>
      obtain ⟨rfl, hin, hi⟩ := hi
      have hlt := z_ltL hR.1.2.2 ha (z_inpos hin)
      have he : (z_ws g h)[a]? = some (g_b g + a, .inl (g_A g 4, n, .inr (.inr (.inr (.inr (fun j => (f j).map (fun x => g_b g + x))))))) := by rw [z_ws_at hlt, ha]; rfl
      refine va_aldq cx.1 cx.2.1 cx.2.2.2.2.2.1.1 hR.1.2.1 a 4 he rfl hin hd ?_
      have e9 : va_rf ((f i.toNatClampNeg).map (fun x => g_b g + x)) = z_tr g (va_rf (f i.toNatClampNeg)) := by
        cases f i.toNatClampNeg <;> rfl
      rw [e9]
      exact hY _ hi H locs ls hR
    · exact hi.elim
  · exact hi.elim
theorem S_aast (cx : z_cx tab g d p l e R s m args below meth c cc own nL) {ci N : Nat} {T : u_T} (hc : vwCl[ci]? = some (z_RS, T, N)) (hd : decode cc pc = .ok (.aastore, 1)) : z_sn tab g d p l e R s m args below meth c Q nL P (pc, i_aast ci) := by
  intro L st h uc us Y hi hY H locs ls hR
  dsimp only at hi hR ⊢
  unfold i_aast at hi
  dsimp only at hi
  split at hi
  · next v i a r =>
    split at hi
    · next k n f ha =>
      obtain ⟨rfl, hin, hv, hi⟩ := hi
      split at hv
      · next o ho =>
        have hlt := z_ltL hR.1.2.2 ha (z_inpos hin)
        have hltv := z_ltR hR.1.2.2 ho
        have hi0 : i.toNatClampNeg < n := Nat.not_le.mp fun q => hin (Or.inr q)
        have he : (z_ws g h)[a]? = some (g_b g + a, .inl (g_A g 4, n, .inr (.inr (.inr (.inr (fun j => (f j).map (fun x => g_b g + x))))))) := by rw [z_ws_at hlt, ha]; rfl
        have hev : (z_ws g h)[v]? = some (g_b g + v, .inr (ci, o.2.map (z_tr g))) := by rw [z_ws_at hltv, ho, ← hv]; rfl
        obtain ⟨r', hr', cellV, g1, g2, g3, -⟩ := hR.1.2.1 v _ hev
        have hcls := (cx.2.2.2.2.2.1.1.1 ci _ hc).2
        obtain ⟨kA, comp, k1, k2, k3, -⟩ := (cx.2.2.2.2.2.1.1.2 4 _ rfl).2
        have hcomp : comp = (g_D g).1 ci := Option.some.inj (k3.symm.trans hcls.1)
        subst hcomp
        obtain ⟨kC, hkC, -⟩ := hcls.2
        refine W.aast cx.1 cx.2.1 (hR.1.2.1 a _ he) (fun q h => by cases h) (fun h => by cases h) k1 k2 rfl hkC ⟨fun q => hin (Or.inl q), by show _ < (arrV _ _ _).slots.size; rw [arrV_size]; exact hi0⟩ g1 (fun q h => by rw [g3] at h; cases h) (by rw [g2]; exact hkC) (by rw [g2]; exact va_assign hcls) rfl rfl hd fun H1 e1 e2 e3 => ?_
        refine hY _ hi H1 _ ls ⟨hR.1.cell hlt e2 ?_ e3, hR.2.1.put e2 e3 (Nat.le_add_right _ _), hR.2.2⟩
        show H1[g_b g + a]? = some (vp_cell (g_A g 4) (n, .inr (.inr (.inr (.inr (fun j => (va_up f i.toNatClampNeg (some v) j).map (fun x => g_b g + x)))))))
        rw [e1, vp_cell_q, vp_cell_q, arrV_store]
        congr 2
        funext q
        by_cases hq : q = i.toNatClampNeg
        · subst hq
          simp [updV, va_up, va_rf]
        · simp [updV, va_up, hq]
      · exact hv.elim
    · exact hi.elim
  · exact hi.elim
theorem S_alen (cx : z_cx tab g d p l e R s m args below meth c cc own nL) (hd : decode cc pc = .ok (.arraylength, 1)) : z_sn tab g d p l e R s m args below meth c Q nL P (pc, i_alen) := by
  intro L st h uc us Y hi hY H locs ls hR
  dsimp only at hi hR ⊢
  unfold i_alen at hi
  dsimp only at hi
  split at hi
  · next a r =>
    split at hi
    · next k n x ha =>
      obtain ⟨hk, hn, hi⟩ := hi
      have hlt := z_ltL hR.1.2.2 ha hn
      have he : (z_ws g h)[a]? = some (g_b g + a, .inl (g_A g k, z_ar g (n, x))) := by rw [z_ws_at hlt, ha]; rfl
      have hx : (z_ar g (n, x)).1 = n := by
        rcases x with f | f | f | f | f <;> rfl
      obtain ⟨ty, ht⟩ := z_tyk g k hk
      exact va_alen cx.1 cx.2.1 cx.2.2.2.2.2.1.1 hR.1.2.1 a k he ht (by rw [hx]) hd (hY _ hi H locs ls hR)
    · exact hi.elim
  · next j r =>
    rcases hi with ⟨rfl, hi⟩ | ⟨rfl, hi⟩
    · exact va_slen cx.1 cx.2.1 cx.2.2.2.2.2.2.1.2.2.1 (Nat.lt_of_lt_of_le cx.2.2.2.2.2.2.1.2.2.2 cx.2.2.2.2.2.2.2.1) (Nat.not_le.mpr cx.2.2.2.2.2.2.1.2.2.2) hR.2.1 hd (hY _ hi H locs ls hR)
    · exact va_tlen cx.1 cx.2.1 cx.2.2.2.2.2.2.1.2.1 hR.2.1 rfl hd (hY _ hi H locs ls hR)
  · exact hi.elim
theorem S_new (cx : z_cx tab g d p l e R s m args below meth c cc own nL) {ci ix N : Nat} {C : String} {T : u_T} {ty : Nat → FieldType} {fs : List Value} (hc : vwCl[ci]? = some (C, T, N)) (hin : ∀ w ∈ u_ws C T N, w ∈ z_WS) (hty : ∀ k, k < N → parseFieldDescriptor (T k).2.2.1 = some (ty k)) (hcl : Cond.classLink own ix C ∈ z_WS) (hin2 : Cond.instantiable C N ∈ z_WS) (hini : Cond.initialized C ∈ z_WS) (hfs : ∀ j, j < N → fs[j]? = some (defaultValue (ty j)) ∧ (defaultValue (ty j) = .int 0 ∨ defaultValue (ty j) = .null)) (hd : decode cc pc = .ok (.new ix, 3)) : z_sn tab g d p l e R s m args below meth c Q nL P (pc, i_new ci N fs) := by
  intro L st h uc us Y hi hY H locs ls hR
  dsimp only at hi hR ⊢
  unfold i_new at hi
  dsimp only at hi
  obtain ⟨hc1, hs1, hi⟩ := hi
  have hts := cx.2.2.2.2.1
  have hKn := cx.2.2.2.2.2.1.1.1 ci _ hc
  refine W.newcK cx.1 cx.2.1 cx.2.2.2.1 (hts _ hcl) (hts _ hin2) (hts _ hini) rfl hd hc1 hs1 hKn.2.1 rfl fun H1 kC hkC e1 z1 o1 => ?_
  have hw : z_Wh g (va_up h.1 h.2 (.inr (ci, fs)), h.2 + 1) H1 := hR.1.make z1 ⟨_, hc, (u_born ty hts hin hKn hkC e1 hty).to (fun j hj => by
    obtain ⟨f1, f2⟩ := hfs j hj
    show defaultValue (ty j) = ((fs.map (z_tr g)).getD j .null)
    rw [List.getD_eq_getElem?_getD, List.getElem?_map, f1]
    rcases f2 with f2 | f2 <;> rw [f2] <;> rfl)⟩ o1
  have h9 := hY _ hi H1 locs ls ⟨hw, z_S_make hR.2.1 z1 o1, hR.2.2.1, hc1, hs1⟩
  rw [hR.1.1]
  exact h9
theorem z_newa {E : zE} {L : zLc} {st : List Value} {h : zH} {uc us : Nat} {Y : zC → Prop} {kd : Nat} (q : i_newa kd E (pc, L, st, h, uc, us) Y P) : ∃ (n : Int32) (r : List Value), st = .int n :: r ∧ ¬ n < 0 ∧ n.toNatClampNeg ≤ 65536 ∧ uc + 1 ≤ E.2.1.1 ∧ us + n.toNatClampNeg ≤ E.2.1.2 ∧ Y (pc + 2, L, .ref h.2 :: r, (va_up h.1 h.2 (.inl (kd, n.toNatClampNeg, .inl (fun _ => 0))), h.2 + 1), uc + 1, us + n.toNatClampNeg) := by
  unfold i_newa at q
  dsimp only at q
  split at q
  · next n r => exact ⟨n, r, rfl, q⟩
  · exact q.elim
theorem S_newa (cx : z_cx tab g d p l e R s m args below meth c cc own nL) {kd : Nat} {at0 : ArrayType} {ty : FieldType} (hty : newarray.typeOf at0 = ty) (hk : (z_tys g)[kd]? = some (g_A g kd, ty)) (hw0 : Cond.arrayClass ty ∈ z_WS) (hby : componentBytes ty ≤ 8) (hdv : defaultValue ty = .int 0) (hnm : ∀ U cA, va_RA U cA ty → U.vm.findClass ("[" ++ ty.toString) = some cA) (hd : decode cc pc = .ok (.newarray at0, 2)) : z_sn tab g d p l e R s m args below meth c Q nL P (pc, i_newa kd) := by
  intro L st h uc us Y hi hY H locs ls hR
  dsimp only at hi hR ⊢
  obtain ⟨n, r, rfl, hn, hle, hc1, hs1, hi⟩ := z_newa hi
  subst hty
  have hts := cx.2.2.2.2.1
  have hby2 : n.toNatClampNeg * componentBytes (newarray.typeOf at0) ≤ 536870912 := by
    have := Nat.mul_le_mul hle hby
    omega
  refine va_newaK cx.1 cx.2.1 (hts _ hw0) rfl hd rfl hn rfl hby2 hc1 hs1 rfl fun H1 cA e1 z1 o1 hAr hNm => ?_
  have hcA : cA = g_A g kd := Option.some.inj (hNm.symm.trans (hnm _ _ (cx.2.2.2.2.2.1.1.2 kd _ hk).2))
  have hw : z_Wh g (va_up h.1 h.2 (.inl (kd, n.toNatClampNeg, .inl (fun _ => 0))), h.2 + 1) H1 := hR.1.make z1 (by
    show H1[H.size]? = some (vp_cell (g_A g kd) (n.toNatClampNeg, .inl (fun _ => 0)))
    rw [vp_cell_i, e1, hcA, hdv]) o1
  have h9 := hY _ hi H1 locs ls ⟨hw, z_S_make hR.2.1 z1 o1, hR.2.2.1, hc1, hs1⟩
  rw [hR.1.1]
  exact h9
theorem z_newq {E : zE} {L : zLc} {st : List Value} {h : zH} {uc us : Nat} {Y : zC → Prop} (q : i_newq E (pc, L, st, h, uc, us) Y P) : ∃ (n : Int32) (r : List Value), st = .int n :: r ∧ ¬ n < 0 ∧ n.toNatClampNeg ≤ 65536 ∧ uc + 1 ≤ E.2.1.1 ∧ us + n.toNatClampNeg ≤ E.2.1.2 ∧ Y (pc + 3, L, .ref h.2 :: r, (va_up h.1 h.2 (.inl (4, n.toNatClampNeg, .inr (.inr (.inr (.inr (fun _ => none)))))), h.2 + 1), uc + 1, us + n.toNatClampNeg) := by
  unfold i_newq at q
  dsimp only at q
  split at q
  · next n r => exact ⟨n, r, rfl, q⟩
  · exact q.elim
theorem S_newq (cx : z_cx tab g d p l e R s m args below meth c cc own nL) {ix : Nat} (hcl : Cond.classLink own ix z_RS ∈ z_WS) (hd : decode cc pc = .ok (.anewarray ix, 3)) : z_sn tab g d p l e R s m args below meth c Q nL P (pc, i_newq) := by
  intro L st h uc us Y hi hY H locs ls hR
  dsimp only at hi hR ⊢
  obtain ⟨n, r, rfl, hn, hle, hc1, hs1, hi⟩ := z_newq hi
  have hts := cx.2.2.2.2.1
  refine W.anew cx.1 cx.2.1 cx.2.2.2.1 (hts _ hcl) (va_AO.use cx.2.2.2.2.2.1.2.2) rfl hd rfl hn (by omega) hc1 hs1 fun cA kA comp f1 f2 f3 f4 => ?_
  generalize hH1 : H.push ({ cls := cA, slots := Array.replicate n.toNatClampNeg .null, vm := .none } : Cell) = H1
  have z1 : H1.size = H.size + 1 := by rw [← hH1, Array.size_push]
  have e1 : H1[H.size]? = some (arrV cA n.toNatClampNeg (fun _ => .null)) := by rw [← hH1, Array.getElem?_push_size, ← arrV_new]
  have o1 : ∀ q : Nat, q < H.size → H1[q]? = H[q]? := fun q hq => by rw [← hH1, Array.getElem?_push, if_neg (Nat.ne_of_lt hq)]
  obtain ⟨kA', comp', -, -, -, k4⟩ := (cx.2.2.2.2.2.1.1.2 4 _ rfl).2
  have hcA : cA = g_A g 4 := Option.some.inj (f1.symm.trans k4)
  have hw : z_Wh g (va_up h.1 h.2 (.inl (4, n.toNatClampNeg, .inr (.inr (.inr (.inr (fun _ => none)))))), h.2 + 1) H1 := hR.1.make z1 (by
    show H1[H.size]? = some (vp_cell (g_A g 4) (n.toNatClampNeg, .inr (.inr (.inr (.inr (fun _ => (none : Option Nat).map (fun x => g_b g + x)))))))
    rw [vp_cell_q, e1, hcA]
    rfl) o1
  have h9 := hY _ hi H1 locs ls ⟨hw, z_S_make hR.2.1 z1 o1, hR.2.2.1, hc1, hs1⟩
  rw [hR.1.1]
  exact h9
end ZS2
