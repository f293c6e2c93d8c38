/-! How a method is walked in the small machine. -/
theorem va_up_eq {α : Type} (f : Nat → α) (k : Nat) (v : α) : va_up f k v k = v := if_pos rfl
theorem va_up_lit {α : Type} (f : Nat → α) (k j : Nat) (v : α) (h : ¬ j = k) : va_up f k v j = f j := if_neg h
theorem zM_start {sc : Nat × (Nat → Int32)} {d mi mc ms : Nat} {as : List Value} {h : zH} {P : zP} {r : zR} {cd : zCd} {L0 : zLc} (hr : zTab[mi]? = some r) (hk : r.2.2.2.2 = cd) (hl : Nat.ble as.length r.2.2.1 = true) (hc : as.all (fun v => v.category == 1) = true) (hL : as.map some ++ List.replicate (r.2.2.1 - as.length) none = L0) (k : zS (zMt zTab sc d, (mc, ms), sc) cd P (0, L0, [], h, 0, 0)) : zMt zTab sc (d + 1) mi as h mc ms P := by
  subst hk
  subst hL
  refine ⟨r, hr, Nat.le_of_ble_eq_true hl, fun v hv => ?_, k⟩
  have := List.all_eq_true.mp hc v hv
  simpa using this
theorem zM_gen {sc : Nat × (Nat → Int32)} {d mi mc ms : Nat} {as : List Value} {h : zH} {P : zP} (k : ∀ P' : zP, (∀ (r : Option Value) (h' : zH), P r h' → P' r h') → zMt zTab sc d mi as h mc ms P') : zMt zTab sc d mi as h mc ms P := k P (fun _ _ h => h)
section ZW
variable {M : zM} {C S : Nat} {sc : Nat × (Nat → Int32)} {X : zC → Prop} {Q : zP} {pc : Nat} {L : zLc} {st : List Value} {h : zH} {uc us : Nat}
theorem z_callx {mi n mc ms : Nat} {As rest : List Value} {P : zP} (hsp : (st.take n).reverse = As) (hdr : st.drop n = rest) (hn : Nat.ble n st.length = true) (hcat : Nat.ble (List.sum (List.map (fun v : Value => v.category) rest)) 8 = true) (hM : M mi As h mc ms P) (hc : uc + mc ≤ C) (hs : us + ms ≤ S)
    (k : ∀ (r : Option Value) (h' : zH), P r h' → X (pc + 3, L, r.toList ++ rest, h', uc + mc, us + ms)) : z_call mi n (M, (C, S), sc) (pc, L, st, h, uc, us) X := by
  refine ⟨Nat.le_of_ble_eq_true hn, ?_, mc, ms, P, ?_, hc, hs, fun r h' hp => ?_⟩
  · show ((st.drop n).map fun v => v.category).sum ≤ 8
    rw [hdr]
    exact Nat.le_of_ble_eq_true hcat
  · show M mi (st.take n).reverse h mc ms P
    rw [hsp]
    exact hM
  · show X (pc + 3, L, r.toList ++ st.drop n, h', uc + mc, us + ms)
    rw [hdr]
    exact k r h' hp
theorem r_callV {ci mi n mc ms a : Nat} {As rest fs : List Value} {P : zP} (hM : M mi (.ref a :: As) h mc ms P) (hsp : (st.take (n + 1)).reverse = .ref a :: As) (hdr : st.drop (n + 1) = rest) (hn : Nat.ble (n + 1) st.length = true) (hcat : Nat.ble (List.sum (List.map (fun v : Value => v.category) rest)) 8 = true) (ho : h.1 a = .inr (ci, fs)) (hc : uc + mc ≤ C) (hs : us + ms ≤ S)
    (k : ∀ (r : Option Value) (h' : zH), P r h' → X (pc + 3, L, r.toList ++ rest, h', uc + mc, us + ms)) : i_callV ci mi n (M, (C, S), sc) (pc, L, st, h, uc, us) X Q := by
  refine ⟨⟨.ref a, ?_, ?_⟩, z_callx hsp hdr hn hcat hM hc hs k⟩
  · show (st.take (n + 1)).reverse[0]? = _
    rw [hsp]
    rfl
  · unfold z_recv
    show match h.1 a with | .inr o => o.1 = ci | _ => False
    rw [ho]
theorem r_callS {mi n mc ms : Nat} {As rest : List Value} {P : zP} (hM : M mi As h mc ms P) (hsp : (st.take n).reverse = As) (hdr : st.drop n = rest) (hn : Nat.ble n st.length = true) (hcat : Nat.ble (List.sum (List.map (fun v : Value => v.category) rest)) 8 = true) (hc : uc + mc ≤ C) (hs : us + ms ≤ S)
    (k : ∀ (r : Option Value) (h' : zH), P r h' → X (pc + 3, L, r.toList ++ rest, h', uc + mc, us + ms)) : i_callS mi n (M, (C, S), sc) (pc, L, st, h, uc, us) X Q :=
  z_callx hsp hdr hn hcat hM hc hs k
theorem r_callI {mi n mc ms a : Nat} {As rest : List Value} {P : zP} (hM : M mi (.ref a :: As) h mc ms P) (hsp : (st.take (n + 1)).reverse = .ref a :: As) (hdr : st.drop (n + 1) = rest) (hn : Nat.ble (n + 1) st.length = true) (hcat : Nat.ble (List.sum (List.map (fun v : Value => v.category) rest)) 8 = true) (hc : uc + mc ≤ C) (hs : us + ms ≤ S)
    (k : ∀ (r : Option Value) (h' : zH), P r h' → X (pc + 3, L, r.toList ++ rest, h', uc + mc, us + ms)) : i_callI mi n (M, (C, S), sc) (pc, L, st, h, uc, us) X Q := by
  refine ⟨⟨a, ?_⟩, z_callx hsp hdr hn hcat hM hc hs k⟩
  show (st.take (n + 1)).reverse[0]? = _
  rw [hsp]
  rfl
theorem r_tswIn {E : zE} {lo : Int} {ts : List Nat} {df : Nat} {x : Int32} {r : List Value} {q : zH × Nat × Nat} (k0 : Nat) {t0 : Nat} (hx : x.toInt = lo + k0) (ht : ts[k0]? = some t0) (k : X (t0, L, r, q)) : i_tsw lo ts df E (pc, L, .int x :: r, q) X Q := by
  have hk0 : k0 < ts.length := (List.getElem?_eq_some_iff.mp ht).1
  refine ⟨fun k' t' hk' hx' => ?_, fun hx' => ?_⟩
  · have e : k' = k0 := by omega
    subst e
    cases ht.symm.trans hk'
    exact k
  · rcases hx' with hx' | hx' <;> omega
theorem r_tswOut {E : zE} {lo : Int} {ts : List Nat} {df : Nat} {x : Int32} {r : List Value} {q : zH × Nat × Nat} (hx : x.toInt < lo ∨ lo + ts.length ≤ x.toInt) (k : X (df, L, r, q)) : i_tsw lo ts df E (pc, L, .int x :: r, q) X Q := by
  refine ⟨fun k' t' hk' hx' => ?_, fun _ => k⟩
  have hk0 : k' < ts.length := (List.getElem?_eq_some_iff.mp hk').1
  rcases hx with hx | hx <;> omega
end ZW
