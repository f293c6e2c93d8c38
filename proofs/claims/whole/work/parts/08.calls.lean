/-! Calls, ends, and the whole: what the small machine does, the great one does. -/
theorem z_good {r : zR} (hcw : z_cw r ∈ z_WS) : GoodIn z_WS (z_cw r :: z_WS) := fun w hw => by
  rcases List.mem_cons.mp hw with rfl | hw
  · exact ⟨hcw, z_WS_ok _ hcw⟩
  · exact ⟨hw, z_WS_ok _ hw⟩
theorem z_W.calling {g : zG} {h : zH} {U : State} (g' : JFrame) (mk : MethodId) (a : Array Value) (hw : z_W g h U) : z_W g h (U.calling g' mk a) :=
  ⟨z_Ws.same (s := U) (U := U.calling g' mk a) rfl hw.1, z_Wx.moved (s := U) (U := U.calling g' mk a) (Vm.Alike.refl U.vm) hw.2.1, hw.2.2⟩
theorem z_blind (g : zG) (h : zH) (av : List Value) : FrameBlind (va_Pc av (z_W g h)) := fun a U g' mk q => ⟨q.1, q.2.calling g' mk a⟩
theorem z_args {st : List Value} {n : Nat} {v : Value} (hn : n + 1 ≤ st.length) (h : (st.take (n + 1)).reverse[0]? = some v) : ∃ As : List Value, (st.take (n + 1)).reverse = v :: As ∧ As.length = n ∧ st = As.reverse ++ v :: st.drop (n + 1) := by
  cases hr : (st.take (n + 1)).reverse with
  | nil => rw [hr] at h; cases h
  | cons a As =>
    rw [hr] at h
    cases h
    have hl : (v :: As).length = n + 1 := by rw [← hr, List.length_reverse, List.length_take]; omega
    have ht : st.take (n + 1) = As.reverse ++ [v] := by
      have := congrArg List.reverse hr
      rw [List.reverse_reverse, List.reverse_cons] at this
      exact this
    refine ⟨As, rfl, by simpa using hl, ?_⟩
    conv => lhs; rw [← List.take_append_drop (n + 1) st]
    rw [ht, List.append_assoc]
    rfl
section ZS3
variable {tab : List zR} {g : zG} {d : Nat} {p : Program} {l : Launch} {e : Env} {R : Room} {s : State} {m : MethodId} {args : Array Value} {below : List Frame} {meth : Method} {c : Code} {Q : State → Prop} {cc : ByteArray} {own : String} {nL : Nat} {P : zP} {pc : Nat}
theorem z_callg {H : Heap} {locs : List Loc} {cells slots mc ms : Nat} {ls : Array Slot} {rest st0 : List Value} {a : Array Value} {P1 : zP} (hr : va_Run p l e R s m args below meth c H locs cells slots mc ms (F0 m pc ls st0) rest (z_Q g P1 a) (z_A g)) (hS : va_S (z_A g) s.heap H locs)
    (kk : ∀ (r : Option Value) (h' : zH) (H1 : Heap) (locs1 : List Loc), P1 r h' → z_Wh g h' H1 → va_S (z_A g) s.heap H1 locs1 → W p l e R s m args below meth c H1 locs1 (cells + mc) (slots + ms) Q (F0 m (pc + 3) ls ((r.map (z_tr g)).toList ++ rest))) : W p l e R s m args below meth c H locs cells slots Q (F0 m pc ls st0) := by
  intro T hT X
  obtain ⟨v, st₀, t, T', L, h0, X', hL, e1, e2, ⟨⟨r, h', hp, hv, hw⟩, hz, hk⟩, st⟩ := hr T hT X
  cases hv
  rw [h0] at hz hk
  obtain ⟨t2, a1, b1⟩ := kk r h' T'.heap (locs ++ L) hp (by rw [e1]; exact hw.2.2)
    ⟨Nat.le_trans hS.1 (by rw [e1]; exact hz), fun q h1 h2 => by rw [e1, hk q (Nat.lt_of_lt_of_le h1 hS.1) h2]; exact hS.2.1 q h1 h2, fun q hq => by
      rcases List.mem_append.mp hq with h | h
      · exact hS.2.2 q h
      · exact hL q h⟩ T' rfl X'
  exact ⟨t2, st t2 a1, b1⟩
theorem z_pre (cx : z_cx tab g d p l e R s m args below meth c cc own nL) {h : zH} {H : Heap} {locs : List Loc} (hw : z_Wh g h H) (hS : va_S (z_A g) s.heap H locs) {U : State} (hU : U.heap = H) (hW : s.WarmedH U.vm) : z_W g h U :=
  ⟨cx.2.2.2.2.2.1.warm hW, by rw [hU]; exact (cx.2.2.2.2.2.2.1.kept cx.2.2.2.2.2.2.2.1 hS.2.1).moved hW.alike, by rw [hU]; exact hw⟩
theorem z_toL (r : Option Value) (rest : List Value) : (r.map (z_tr g)).toList ++ rest.map (z_tr g) = (r.toList ++ rest).map (z_tr g) := by
  cases r <;> rfl
theorem z_cats {rest : List Value} (h : (rest.map fun v => v.category).sum ≤ 8) : ((rest.map (z_tr g)).map fun v => v.category).sum ≤ 8 := by
  rw [List.map_map]
  have : ((fun v : Value => v.category) ∘ z_tr g) = (fun v : Value => v.category) := funext fun v => z_tr_cat g v
  rw [this]
  exact h
/-- what a call needs of the callee's row -/
def z_cr (own : String) (r : zR) (n : Nat) : Prop := z_cw r ∈ z_WS ∧ Cond.initialized r.1.cls ∈ z_WS ∧ r.2.2.1 ≤ 19 ∧ (r.1.cls ≠ "java/lang/invoke/MethodHandle" ∧ r.1.cls ≠ "java/lang/invoke/VarHandle" ∧ (parseMethodDescriptor r.1.desc).map (fun d => d.parameters.length) = some n)
theorem z_cb (cx : z_cx tab g d p l e R s m args below meth c cc own nL) {r : zR} {n ix mc ms : Nat} (hr : z_cr own r n) (hl : Cond.methodLink own ix r.1 ∈ z_WS) : CallB R s args own ix r.1 r.2.1 r.2.2.1 r.2.2.2.1 (z_cw r :: z_WS) (z_rm d mc ms) mc ms n := by
  obtain ⟨h1, h2, h3, h4⟩ := hr
  have e1 := cx.2.2.2.2.2.2.2.2.1
  have e2 := cx.2.2.2.2.2.2.2.2.2.1
  exact callB_of n cx.2.2.2.2.1 (z_good h1) rfl rfl rfl (cx.2.2.2.2.1 _ h2) (cx.2.2.2.2.1 _ hl) h4 ⟨e1, by show 8 + (r.2.2.1 + 11) + d * 38 ≤ R.locals; omega⟩
theorem z_cn (cx : z_cx tab g d p l e R s m args below meth c cc own nL) {r : zR} {n ix mc ms : Nat} {host : String} (hr : z_cr own r n) (hl : Cond.methodLinkNest own ix r.1 host ∈ z_NW) : va_CN R s args own ix r.1 host r.2.1 r.2.2.1 r.2.2.2.1 (z_cw r :: z_WS) (z_rm d mc ms) mc ms n := by
  obtain ⟨h1, h2, h3, h4⟩ := hr
  have e1 := cx.2.2.2.2.2.2.2.2.1
  have e2 := cx.2.2.2.2.2.2.2.2.2.1
  exact va_cnB n cx.2.2.2.2.1 (z_good h1) rfl rfl rfl (cx.2.2.2.2.2.1.2.1 _ hl) (cx.2.2.2.2.1 _ h2) h4 ⟨e1, by show 8 + (r.2.2.1 + 11) + d * 38 ≤ R.locals; omega⟩
theorem S_callV (cx : z_cx tab g d p l e R s m args below meth c cc own nL) {ci mi n ix N : Nat} {T : u_T} {r : zR} (ht : tab[mi]? = some r) (hr : z_cr own r n) (hl : Cond.methodLink own ix r.1 ∈ z_WS) (hi1 : Cond.instanceMethod r.1 ∈ z_WS) (hs1 : Cond.selects r.1.cls r.1 r.1 ∈ z_WS) (hc : vwCl[ci]? = some (r.1.cls, T, N)) (hd : decode cc pc = .ok (.invokevirtual ix, 3)) : z_sn tab g d p l e R s m args below meth c Q nL P (pc, i_callV ci mi n) := by
  intro L st h uc us Y hi hY H locs ls hR
  dsimp only at hi hR ⊢
  unfold i_callV z_call at hi
  dsimp only at hi
  obtain ⟨⟨v, hv, hrv⟩, hn, hcat, mc, ms, P1, hM, hc1, hs2, hi⟩ := hi
  obtain ⟨As, hA, hAl, hst⟩ := z_args hn hv
  rw [hA] at hM
  have hmet := cx.2.2.2.2.2.2.2.2.2.2 mi (v :: As) h mc ms P1 r hM ht
  cases v with
  | ref a =>
    unfold z_recv at hrv
    dsimp only at hrv
    split at hrv
    · next o ho =>
      have hlt := z_ltR hR.1.2.2 ho
      have he : (z_ws g h)[a]? = some (g_b g + a, .inr (ci, o.2.map (z_tr g))) := by rw [z_ws_at hlt, ho, ← hrv]; rfl
      have hrc := va_recv cx.2.2.2.2.2.1.1 hR.1.2.1 hc he
      have hstk : st.map (z_tr g) = (As.map (z_tr g)).reverse ++ .ref (g_b g + a) :: (st.drop (n + 1)).map (z_tr g) := by
        conv => lhs; rw [hst]
        rw [List.map_append, List.map_reverse, List.map_cons]
        rfl
      refine z_callg (va_runV (C := r.1.cls) (b := g_b g + a) (As := As.map (z_tr g)) (rest := (st.drop (n + 1)).map (z_tr g)) ⟨cx.1, cx.2.1, cx.2.2.1, cx.2.2.2.1, cx.2.2.2.2.1⟩ hmet ⟨z_cb cx hr hl, cx.2.2.2.2.1 _ hi1, cx.2.2.2.2.1 _ hs1⟩ ⟨z_blind g h _, hrc, fun U hU hW => ⟨rfl, z_pre cx hR.1 hR.2.1 hU hW⟩⟩ rfl (by rw [List.length_map]; exact hAl) hR.2.2.1.1 hstk (lv_room (z_cats hcat)) hd ⟨hc1, hs2⟩) hR.2.1 (fun r' h' H1 locs1 hp hw1 hS1 => ?_)
      rw [z_toL]
      exact hY _ (hi r' h' hp) H1 locs1 ls ⟨hw1, hS1, hR.2.2.1, hc1, hs2⟩
    · exact hrv.elim
  | _ => exact hrv.elim
theorem S_callVN (cx : z_cx tab g d p l e R s m args below meth c cc own nL) {ci mi n ix N : Nat} {T : u_T} {r : zR} (ht : tab[mi]? = some r) (hr : z_cr own r n) {host : String} (hl : Cond.methodLinkNest own ix r.1 host ∈ z_NW) (hi1 : Cond.instanceMethod r.1 ∈ z_WS) (hs1 : Cond.selects r.1.cls r.1 r.1 ∈ z_WS) (hc : vwCl[ci]? = some (r.1.cls, T, N)) (hd : decode cc pc = .ok (.invokevirtual ix, 3)) : z_sn tab g d p l e R s m args below meth c Q nL P (pc, i_callV ci mi n) := by
  intro L st h uc us Y hi hY H locs ls hR
  dsimp only at hi hR ⊢
  unfold i_callV z_call at hi
  dsimp only at hi
  obtain ⟨⟨v, hv, hrv⟩, hn, hcat, mc, ms, P1, hM, hc1, hs2, hi⟩ := hi
  obtain ⟨As, hA, hAl, hst⟩ := z_args hn hv
  rw [hA] at hM
  have hmet := cx.2.2.2.2.2.2.2.2.2.2 mi (v :: As) h mc ms P1 r hM ht
  cases v with
  | ref a =>
    unfold z_recv at hrv
    dsimp only at hrv
    split at hrv
    · next o ho =>
      have hlt := z_ltR hR.1.2.2 ho
      have he : (z_ws g h)[a]? = some (g_b g + a, .inr (ci, o.2.map (z_tr g))) := by rw [z_ws_at hlt, ho, ← hrv]; rfl
      have hrc := va_recv cx.2.2.2.2.2.1.1 hR.1.2.1 hc he
      have hstk : st.map (z_tr g) = (As.map (z_tr g)).reverse ++ .ref (g_b g + a) :: (st.drop (n + 1)).map (z_tr g) := by
        conv => lhs; rw [hst]
        rw [List.map_append, List.map_reverse, List.map_cons]
        rfl
      refine z_callg (va_runVN (C := r.1.cls) (b := g_b g + a) (As := As.map (z_tr g)) (rest := (st.drop (n + 1)).map (z_tr g)) ⟨cx.1, cx.2.1, cx.2.2.1, cx.2.2.2.1, cx.2.2.2.2.1⟩ hmet ⟨z_cn cx hr hl, cx.2.2.2.2.1 _ hi1, cx.2.2.2.2.1 _ hs1⟩ ⟨z_blind g h _, hrc, fun U hU hW => ⟨rfl, z_pre cx hR.1 hR.2.1 hU hW⟩⟩ rfl (by rw [List.length_map]; exact hAl) hR.2.2.1.1 hstk (lv_room (z_cats hcat)) hd ⟨hc1, hs2⟩) hR.2.1 (fun r' h' H1 locs1 hp hw1 hS1 => ?_)
      rw [z_toL]
      exact hY _ (hi r' h' hp) H1 locs1 ls ⟨hw1, hS1, hR.2.2.1, hc1, hs2⟩
    · exact hrv.elim
  | _ => exact hrv.elim
theorem S_callS (cx : z_cx tab g d p l e R s m args below meth c cc own nL) {mi n ix : Nat} {r : zR} (ht : tab[mi]? = some r) (hr : z_cr own r n) (hl : Cond.methodLink own ix r.1 ∈ z_WS) (hs1 : Cond.static r.1 ∈ z_WS) (hd : decode cc pc = .ok (.invokestatic ix, 3)) : z_sn tab g d p l e R s m args below meth c Q nL P (pc, i_callS mi n) := by
  intro L st h uc us Y hi hY H locs ls hR
  dsimp only at hi hR ⊢
  unfold i_callS z_call at hi
  dsimp only at hi
  obtain ⟨hn, hcat, mc, ms, P1, hM, hc1, hs2, hi⟩ := hi
  have hmet := cx.2.2.2.2.2.2.2.2.2.2 mi _ h mc ms P1 r hM ht
  have hstk : st.map (z_tr g) = (((st.take n).reverse).map (z_tr g)).reverse ++ (st.drop n).map (z_tr g) := by
    rw [List.map_reverse, List.reverse_reverse, ← List.map_append, List.take_append_drop]
  refine z_callg (va_runS (As := ((st.take n).reverse).map (z_tr g)) (rest := (st.drop n).map (z_tr g)) ⟨cx.1, cx.2.1, cx.2.2.1, cx.2.2.2.1, cx.2.2.2.2.1⟩ hmet ⟨z_cb cx hr hl, cx.2.2.2.2.1 _ hs1⟩ ⟨z_blind g h _, fun U hU hW => ⟨rfl, z_pre cx hR.1 hR.2.1 hU hW⟩⟩ rfl (by rw [List.length_map, List.length_reverse, List.length_take]; omega) hR.2.2.1.1 hstk (lv_room (z_cats hcat)) hd ⟨hc1, hs2⟩) hR.2.1 (fun r' h' H1 locs1 hp hw1 hS1 => ?_)
  rw [z_toL]
  exact hY _ (hi r' h' hp) H1 locs1 ls ⟨hw1, hS1, hR.2.2.1, hc1, hs2⟩
theorem S_callSN (cx : z_cx tab g d p l e R s m args below meth c cc own nL) {mi n ix : Nat} {r : zR} (ht : tab[mi]? = some r) (hr : z_cr own r n) {host : String} (hl : Cond.methodLinkNest own ix r.1 host ∈ z_NW) (hs1 : Cond.static r.1 ∈ z_WS) (hd : decode cc pc = .ok (.invokestatic ix, 3)) : z_sn tab g d p l e R s m args below meth c Q nL P (pc, i_callS mi n) := by
  intro L st h uc us Y hi hY H locs ls hR
  dsimp only at hi hR ⊢
  unfold i_callS z_call at hi
  dsimp only at hi
  obtain ⟨hn, hcat, mc, ms, P1, hM, hc1, hs2, hi⟩ := hi
  have hmet := cx.2.2.2.2.2.2.2.2.2.2 mi _ h mc ms P1 r hM ht
  have hstk : st.map (z_tr g) = (((st.take n).reverse).map (z_tr g)).reverse ++ (st.drop n).map (z_tr g) := by
    rw [List.map_reverse, List.reverse_reverse, ← List.map_append, List.take_append_drop]
  refine z_callg (va_runSN (As := ((st.take n).reverse).map (z_tr g)) (rest := (st.drop n).map (z_tr g)) ⟨cx.1, cx.2.1, cx.2.2.1, cx.2.2.2.1, cx.2.2.2.2.1⟩ hmet ⟨z_cn cx hr hl, cx.2.2.2.2.1 _ hs1, trivial⟩ ⟨z_blind g h _, fun U hU hW => ⟨rfl, z_pre cx hR.1 hR.2.1 hU hW⟩⟩ rfl (by rw [List.length_map, List.length_reverse, List.length_take]; omega) hR.2.2.1.1 hstk (lv_room (z_cats hcat)) hd ⟨hc1, hs2⟩) hR.2.1 (fun r' h' H1 locs1 hp hw1 hS1 => ?_)
  rw [z_toL]
  exact hY _ (hi r' h' hp) H1 locs1 ls ⟨hw1, hS1, hR.2.2.1, hc1, hs2⟩
theorem S_callI (cx : z_cx tab g d p l e R s m args below meth c cc own nL) {mi n ix : Nat} {r : zR} (ht : tab[mi]? = some r) (hr : z_cr own r n) (hl : Cond.methodLink own ix r.1 ∈ z_WS) (hi1 : Cond.instanceMethod r.1 ∈ z_WS) (hy : r.1.name = "<init>") (hrt : r.2.2.2.1 = none) (hd : decode cc pc = .ok (.invokespecial ix, 3)) : z_sn tab g d p l e R s m args below meth c Q nL P (pc, i_callI mi n) := by
  intro L st h uc us Y hi hY H locs ls hR
  dsimp only at hi hR ⊢
  unfold i_callI z_call at hi
  dsimp only at hi
  obtain ⟨⟨a, hv⟩, hn, hcat, mc, ms, P1, hM, hc1, hs2, hi⟩ := hi
  obtain ⟨As, hA, hAl, hst⟩ := z_args hn hv
  rw [hA] at hM
  have hmet := cx.2.2.2.2.2.2.2.2.2.2 mi (.ref a :: As) h mc ms P1 r hM ht
  have hstk : st.map (z_tr g) = (As.map (z_tr g)).reverse ++ .ref (g_b g + a) :: (st.drop (n + 1)).map (z_tr g) := by
    conv => lhs; rw [hst]
    rw [List.map_append, List.map_reverse, List.map_cons]
    rfl
  have hcw := z_cb (mc := mc) (ms := ms) cx hr hl
  rw [hrt] at hcw
  refine z_callg (va_runI (b := g_b g + a) (As := As.map (z_tr g)) (rest := (st.drop (n + 1)).map (z_tr g)) ⟨cx.1, cx.2.1, cx.2.2.1, cx.2.2.2.1, cx.2.2.2.2.1⟩ hmet ⟨hcw, hy, cx.2.2.2.2.1 _ hi1⟩ ⟨z_blind g h _, fun U hU hW => ⟨rfl, z_pre cx hR.1 hR.2.1 hU hW⟩⟩ rfl (by rw [List.length_map]; exact hAl) hR.2.2.1.1 hstk (lv_room (z_cats hcat)) hd ⟨hc1, hs2⟩) hR.2.1 (fun r' h' H1 locs1 hp hw1 hS1 => ?_)
  rw [z_toL]
  exact hY _ (hi r' h' hp) H1 locs1 ls ⟨hw1, hS1, hR.2.2.1, hc1, hs2⟩
theorem S_callIN (cx : z_cx tab g d p l e R s m args below meth c cc own nL) {mi n ix : Nat} {r : zR} (ht : tab[mi]? = some r) (hr : z_cr own r n) {host : String} (hl : Cond.methodLinkNest own ix r.1 host ∈ z_NW) (hi1 : Cond.instanceMethod r.1 ∈ z_WS) (hy : r.1.name = "<init>") (hrt : r.2.2.2.1 = none) (hd : decode cc pc = .ok (.invokespecial ix, 3)) : z_sn tab g d p l e R s m args below meth c Q nL P (pc, i_callI mi n) := by
  intro L st h uc us Y hi hY H locs ls hR
  dsimp only at hi hR ⊢
  unfold i_callI z_call at hi
  dsimp only at hi
  obtain ⟨⟨a, hv⟩, hn, hcat, mc, ms, P1, hM, hc1, hs2, hi⟩ := hi
  obtain ⟨As, hA, hAl, hst⟩ := z_args hn hv
  rw [hA] at hM
  have hmet := cx.2.2.2.2.2.2.2.2.2.2 mi (.ref a :: As) h mc ms P1 r hM ht
  have hstk : st.map (z_tr g) = (As.map (z_tr g)).reverse ++ .ref (g_b g + a) :: (st.drop (n + 1)).map (z_tr g) := by
    conv => lhs; rw [hst]
    rw [List.map_append, List.map_reverse, List.map_cons]
    rfl
  have hcw := z_cn (mc := mc) (ms := ms) cx hr hl
  rw [hrt] at hcw
  refine z_callg (va_runIN (b := g_b g + a) (As := As.map (z_tr g)) (rest := (st.drop (n + 1)).map (z_tr g)) ⟨cx.1, cx.2.1, cx.2.2.1, cx.2.2.2.1, cx.2.2.2.2.1⟩ hmet ⟨hcw, hy, cx.2.2.2.2.1 _ hi1⟩ ⟨z_blind g h _, fun U hU hW => ⟨rfl, z_pre cx hR.1 hR.2.1 hU hW⟩⟩ rfl (by rw [List.length_map]; exact hAl) hR.2.2.1.1 hstk (lv_room (z_cats hcat)) hd ⟨hc1, hs2⟩) hR.2.1 (fun r' h' H1 locs1 hp hw1 hS1 => ?_)
  rw [z_toL]
  exact hY _ (hi r' h' hp) H1 locs1 ls ⟨hw1, hS1, hR.2.2.1, hc1, hs2⟩
theorem S_mmax (cx : z_cx tab g d p l e R s m args below meth c cc own nL) {ix : Nat} (hl : Cond.methodLink own ix Lib.Math.max.name ∈ z_WS) (h1 : Cond.static Lib.Math.max.name ∈ z_WS) (h2 : Cond.initialized "java/lang/Math" ∈ z_WS) (h3 : Cond.code Lib.Math.max.name Lib.Math.max.code 2 (some .int) ∈ z_WS) (hd : decode cc pc = .ok (.invokestatic ix, 3)) : z_sn tab g d p l e R s m args below meth c Q nL P (pc, i_math (fun x y => if x < y then y else x)) := by
  intro L st h uc us Y hi hY H locs ls hR
  dsimp only at hi hR ⊢
  unfold i_math at hi
  dsimp only at hi
  have hts := cx.2.2.2.2.1
  have e1 := cx.2.2.2.2.2.2.2.2.1
  have e2 := cx.2.2.2.2.2.2.2.2.2.1
  split at hi
  · next y x r =>
    have hk := z_cats (g := g) hi.1
    exact va_mmax cx.1 cx.2.1 (cx.2.2.1.trans hR.2.2.1.1.symm) cx.2.2.2.1 (hts _ hl) (hts _ h1) (hts _ h2) (hts _ h3) (by omega) (by omega) hR.2.2.2.1 hR.2.2.2.2 hd (hY _ hi.2 H locs ls hR)
  · exact hi.elim
theorem S_mmin (cx : z_cx tab g d p l e R s m args below meth c cc own nL) {ix : Nat} (hl : Cond.methodLink own ix Lib.Math.min.name ∈ z_WS) (h1 : Cond.static Lib.Math.min.name ∈ z_WS) (h2 : Cond.initialized "java/lang/Math" ∈ z_WS) (h3 : Cond.code Lib.Math.min.name Lib.Math.min.code 2 (some .int) ∈ z_WS) (hd : decode cc pc = .ok (.invokestatic ix, 3)) : z_sn tab g d p l e R s m args below meth c Q nL P (pc, i_math (fun x y => if y < x then y else x)) := by
  intro L st h uc us Y hi hY H locs ls hR
  dsimp only at hi hR ⊢
  unfold i_math at hi
  dsimp only at hi
  have hts := cx.2.2.2.2.1
  have e1 := cx.2.2.2.2.2.2.2.2.1
  have e2 := cx.2.2.2.2.2.2.2.2.2.1
  split at hi
  · next y x r =>
    have hk := z_cats (g := g) hi.1
    exact va_mmin cx.1 cx.2.1 (cx.2.2.1.trans hR.2.2.1.1.symm) cx.2.2.2.1 (hts _ hl) (hts _ h1) (hts _ h2) (hts _ h3) (by omega) (by omega) hR.2.2.2.1 hR.2.2.2.2 hd (hY _ hi.2 H locs ls hR)
  · exact hi.elim
theorem S_oini (cx : z_cx tab g d p l e R s m args below meth c cc own nL) {ix : Nat} (hl : Cond.methodLink own ix objectInit ∈ z_WS) (h1 : Cond.instanceMethod objectInit ∈ z_WS) (h2 : Cond.code objectInit ⟨#[0xb1]⟩ 1 none ∈ z_WS) (hd : decode cc pc = .ok (.invokespecial ix, 3)) : z_sn tab g d p l e R s m args below meth c Q nL P (pc, i_oini) := by
  intro L st h uc us Y hi hY H locs ls hR
  dsimp only at hi hR ⊢
  unfold i_oini at hi
  dsimp only at hi
  have hts := cx.2.2.2.2.1
  have e1 := cx.2.2.2.2.2.2.2.2.1
  have e2 := cx.2.2.2.2.2.2.2.2.2.1
  split at hi
  · next a r =>
    have hk := z_cats (g := g) hi.1
    exact W.objInit cx.1 cx.2.1 cx.2.2.2.1 (hts _ hl) (hts _ h1) (hts _ h2) rfl (hR.2.2.1.1.trans cx.2.2.1.symm) rfl hd (by omega) (by show 2 * 0 + _ + 12 ≤ _; omega) (hY _ hi.2 H locs ls hR)
  · exact hi.elim
def z_okI (r : Option Value) : Prop := ∃ v, r = some (.int v)
def z_okZ (r : Option Value) : Prop := ∃ v, r = some (.int v) ∧ (v = 0 ∨ v = 1)
def z_okA (r : Option Value) : Prop := r = some .null ∨ ∃ a, r = some (.ref a)
def z_okV (r : Option Value) : Prop := r = none
theorem S_iret (he : z_end g p l e R s m args below meth c Q cc P .ireturn z_okI) (hd : decode cc pc = .ok (.ireturn, 1)) : z_sn tab g d p l e R s m args below meth c Q nL P (pc, i_iret) := by
  intro L st h uc us Y hi hY H locs ls hR
  dsimp only at hi hR ⊢
  unfold i_iret at hi
  dsimp only at hi
  split at hi
  · exact he _ h uc us H locs ls pc ⟨_, rfl⟩ hi hR.1 hR.2.1 hR.2.2.2.1 hR.2.2.2.2 hd
  · exact hi.elim
theorem S_zret (he : z_end g p l e R s m args below meth c Q cc P .ireturn z_okZ) (hd : decode cc pc = .ok (.ireturn, 1)) : z_sn tab g d p l e R s m args below meth c Q nL P (pc, i_zret) := by
  intro L st h uc us Y hi hY H locs ls hR
  dsimp only at hi hR ⊢
  unfold i_zret at hi
  dsimp only at hi
  split at hi
  · exact he _ h uc us H locs ls pc ⟨_, rfl, hi.1⟩ hi.2 hR.1 hR.2.1 hR.2.2.2.1 hR.2.2.2.2 hd
  · exact hi.elim
theorem S_aret (he : z_end g p l e R s m args below meth c Q cc P .areturn z_okA) (hd : decode cc pc = .ok (.areturn, 1)) : z_sn tab g d p l e R s m args below meth c Q nL P (pc, i_aret) := by
  intro L st h uc us Y hi hY H locs ls hR
  dsimp only at hi hR ⊢
  unfold i_aret at hi
  dsimp only at hi
  split at hi
  · exact he _ h uc us H locs ls pc (Or.inr ⟨_, rfl⟩) hi hR.1 hR.2.1 hR.2.2.2.1 hR.2.2.2.2 hd
  · exact he _ h uc us H locs ls pc (Or.inl rfl) hi hR.1 hR.2.1 hR.2.2.2.1 hR.2.2.2.2 hd
  · exact hi.elim
theorem S_vret (he : z_end g p l e R s m args below meth c Q cc P .return_ z_okV) (hd : decode cc pc = .ok (.return_, 1)) : z_sn tab g d p l e R s m args below meth c Q nL P (pc, i_vret) := by
  intro L st h uc us Y hi hY H locs ls hR
  dsimp only at hi hR ⊢
  unfold i_vret at hi
  dsimp only at hi
  split at hi
  · exact he _ h uc us H locs ls pc rfl hi hR.1 hR.2.1 hR.2.2.2.1 hR.2.2.2.2 hd
  · exact hi.elim
theorem z_lk1_mem : ∀ (c1 : List (Nat × zI)) (pc : Nat) (ins : zI), z_lk1 c1 pc = some ins → (pc, ins) ∈ c1
  | [], _, _, h => by cases h
  | q :: r, pc, ins, h => by
    unfold z_lk1 at h
    cases hb : Nat.beq q.1 pc with
    | true =>
      rw [hb] at h
      have e1 : q.1 = pc := Nat.eq_of_beq_eq_true hb
      have e2 : q.2 = ins := Option.some.inj h
      rw [← e1, ← e2]
      exact List.mem_cons_self
    | false =>
      rw [hb] at h
      exact List.mem_cons_of_mem _ (z_lk1_mem r pc ins h)
theorem z_lk_mem : ∀ (cd : zCd) (pc : Nat) (ins : zI), z_lk cd pc = some ins → ∃ q ∈ cd, (pc, ins) ∈ q.2
  | [], _, _, h => by cases h
  | q :: r, pc, ins, h => by
    unfold z_lk at h
    cases hb : Nat.blt pc q.1 with
    | true =>
      rw [hb] at h
      exact ⟨q, List.mem_cons_self, z_lk1_mem _ _ _ h⟩
    | false =>
      rw [hb] at h
      obtain ⟨x, h1, h2⟩ := z_lk_mem r pc ins h
      exact ⟨x, List.mem_cons_of_mem _ h1, h2⟩
/-- a body's run -/
theorem z_run {cd : zCd} {c0 : zC} (hs : ∀ q ∈ cd, ∀ x ∈ q.2, z_sn tab g d p l e R s m args below meth c Q nL P x) (h : zS (zMt tab (g_n g, g_x g) d, (R.cells, R.slots), (g_n g, g_x g)) cd P c0) : z_X g p l e R s m args below meth c Q nL c0 := by
  refine h _ (fun c' ins Y hl hi hY => ?_)
  obtain ⟨pc, L, st, h, uc, us⟩ := c'
  obtain ⟨q, hq, hx⟩ := z_lk_mem cd pc ins hl
  exact hs q hq _ hx L st h uc us Y hi hY
/-- the ends that a method has, by what it answers -/
def z_fin (g : zG) (p : Program) (l : Launch) (e : Env) (R : Room) (s : State) (m : MethodId) (args : Array Value) (below : List Frame) (meth : Method) (c : Code) (Q : State → Prop) (cc : ByteArray) (P : zP) (ret : Option FieldType) : Prop :=
  (ret = none → z_end g p l e R s m args below meth c Q cc P .return_ z_okV) ∧ (ret = some .int → z_end g p l e R s m args below meth c Q cc P .ireturn z_okI) ∧ (ret = some .boolean → z_end g p l e R s m args below meth c Q cc P .ireturn z_okZ) ∧ (∀ n, ret = some (.object n) → z_end g p l e R s m args below meth c Q cc P .areturn z_okA)
end ZS3
theorem z_k {α : Type} {p : α → Prop} {a : α} {l : List α} (h : p a) (k : ∀ x ∈ l, p x) : ∀ x ∈ a :: l, p x := List.forall_mem_cons.mpr ⟨h, k⟩
theorem z_k0 {α : Type} {p : α → Prop} : ∀ x ∈ ([] : List α), p x := fun _ h => absurd h List.not_mem_nil
/-- a method's row is right -/
def z_snd (tab : List zR) (r : zR) : Prop := plainName r.1.cls = true ∧ z_cw r ∈ z_WS ∧ ∀ (g : zG) (d : Nat) (p : Program) (l : Launch) (e : Env) (R : Room) (s : State) (m : MethodId) (args : Array Value) (below : List Frame) (meth : Method) (c : Code) (Q : State → Prop) (P : zP), z_cx tab g d p l e R s m args below meth c r.2.1 r.1.cls r.2.2.1 → meth.name = r.1.name → z_fin g p l e R s m args below meth c Q r.2.1 P r.2.2.2.1 → ∀ q ∈ r.2.2.2.2, ∀ x ∈ q.2, z_sn tab g d p l e R s m args below meth c Q r.2.2.1 P x
theorem z_lr_entry {g : zG} {as : List Value} {n : Nat} (hl : as.length ≤ n) (hc : ∀ v ∈ as, v.category = 1) {ls : Array Slot} (h : lv_has ls n (lv_args 0 (as.map (z_tr g)))) : z_lr g ls (as.map some ++ List.replicate (n - as.length) none) n := by
  refine ⟨h.1, by simp; omega, h.2.1, fun i v hi => ?_⟩
  have key : ∀ (as : List Value) (k i : Nat) (v : Value), (∀ v ∈ as, v.category = 1) → as[i]? = some v → (k + i, z_tr g v) ∈ lv_args k (as.map (z_tr g)) := by
    intro as
    induction as with
    | nil => intro k i v _ h; simp at h
    | cons a as ih =>
      intro k i v hc h
      have ha : ¬ (z_tr g a).category = 2 := by rw [z_tr_cat, hc a List.mem_cons_self]; decide
      show _ ∈ (k, z_tr g a) :: lv_args (if (z_tr g a).category = 2 then k + 2 else k + 1) (as.map (z_tr g))
      rw [if_neg ha]
      cases i with
      | zero =>
        rw [List.getElem?_cons_zero] at h
        cases h
        exact List.mem_cons_self
      | succ i =>
        rw [List.getElem?_cons_succ] at h
        have := ih (k + 1) i v (fun v hv => hc v (List.mem_cons_of_mem _ hv)) h
        rw [show k + (i + 1) = k + 1 + i by omega]
        exact List.mem_cons_of_mem _ this
  by_cases hia : i < as.length
  · rw [List.getElem?_append_left (by rw [List.length_map]; exact hia), List.getElem?_map] at hi
    cases hv : as[i]? with
    | none => rw [hv] at hi; cases hi
    | some w =>
      rw [hv] at hi
      cases hi
      have hm := key as 0 i v hc hv
      rw [Nat.zero_add] at hm
      exact ⟨hc v (List.mem_of_getElem? hv), h.2.2 _ hm⟩
  · rw [List.getElem?_append_right (by rw [List.length_map]; omega), List.getElem?_replicate] at hi
    split at hi <;> cases hi
theorem z_sl_len {g : zG} {as : List Value} (hc : ∀ v ∈ as, v.category = 1) : (lg_sl (as.map (z_tr g))).length = as.length := by
  induction as with
  | nil => rfl
  | cons a as ih =>
    have ha : ¬ (z_tr g a).category = 2 := by rw [z_tr_cat, hc a List.mem_cons_self]; decide
    have := ih (fun v hv => hc v (List.mem_cons_of_mem _ hv))
    unfold lg_sl at this ⊢
    rw [List.map_cons, List.flatMap_cons, List.length_append, this, if_neg ha]
    simp
    omega
/-- every contract of the small machine is one of the great one -/
theorem z_ok_all {tab : List zR} (hT : ∀ r ∈ tab, z_snd tab r) (g : zG) (l : Launch) : ∀ d, z_ok tab g l d
  | 0 => fun _ _ _ _ _ _ _ h _ => h.elim
  | d + 1 => by
    intro mi as h mc ms P r hM hr
    obtain ⟨r', hr', hlen, hcat, hS⟩ := hM
    cases hr.symm.trans hr'
    obtain ⟨hy, -, hsnd⟩ := hT r (List.mem_of_getElem? hr)
    refine Met.ofW (cc := r.2.1) (maxL := r.2.2.1) (ret := r.2.2.2.1) hy rfl ?_
    intro p e s m args below meth c s₁ B hml hv
    obtain ⟨rfl, hW⟩ := hv
    have cx : z_cx tab g d p l e (z_rm (d + 1) mc ms) s m (as.map (z_tr g)).toArray below meth c r.2.1 r.1.cls r.2.2.1 :=
      ⟨B.exec, B.bytes, hml, findClass_of_methodNamed B.named, fun w hw => atoms_spec (ws := z_cw r :: z_WS) B.pre w (List.mem_cons_of_mem _ hw), hW.1, hW.2.1, by rw [hW.2.2.1]; exact Nat.le_add_right _ _, Nat.le_refl _, Nat.le_refl _, z_ok_all hT g l d⟩
    have hnm : meth.name = r.1.name := (name_of_methodNamed B.named B.method).1
    have hlk := B.notSynchronized
    have hq : ∀ (r : Option Value) (h : zH) (H : Heap) (locs : List Loc), P r h → z_Wh g h H → va_S (z_A g) s.heap H locs → ∀ t : State, t.heap = H → s.WarmedH t.vm → z_Q g P (as.map (z_tr g)).toArray s (.returned (r.map (z_tr g))) t := fun r h H locs hp hw hS t ht hWm => ⟨⟨r, h, hp, rfl, z_pre cx hw hS ht hWm⟩, hS.F ht⟩
    have hfin : z_fin g p l e (z_rm (d + 1) mc ms) s m (as.map (z_tr g)).toArray below meth c (MQ below (z_Q g P) (as.map (z_tr g)).toArray s mc ms (z_A g)) r.2.1 P r.2.2.2.1 := by
      refine ⟨fun hret => ?_, fun hret => ?_, fun hret => ?_, fun n hret => ?_⟩
      · intro r1 h1 uc us H locs ls pc hok hp hw hS hu1 hu2 hd
        cases hok
        refine W.widen (k := mc) (n := ms) hu1 hu2 ?_
        exact W.vret B.exec B.bytes (B.returns.trans hret) (hq none h1 H locs hp hw hS) hS.2.2 hd
      · intro r1 h1 uc us H locs ls pc hok hp hw hS hu1 hu2 hd
        obtain ⟨v, rfl⟩ := hok
        refine W.widen (k := mc) (n := ms) hu1 hu2 ?_
        exact W.iret B.exec B.bytes (B.returns.trans hret) (hq (some (.int v)) h1 H locs hp hw hS) hS.2.2 hd
      · intro r1 h1 uc us H locs ls pc hok hp hw hS hu1 hu2 hd
        obtain ⟨v, rfl, hv⟩ := hok
        refine W.widen (k := mc) (n := ms) hu1 hu2 ?_
        exact W.zret (ty := .boolean) B.exec B.bytes (B.returns.trans hret) (by rcases hv with rfl | rfl <;> decide) (hq (some (.int v)) h1 H locs hp hw hS) hS.2.2 hd
      · intro r1 h1 uc us H locs ls pc hok hp hw hS hu1 hu2 hd
        refine W.widen (k := mc) (n := ms) hu1 hu2 ?_
        rcases hok with rfl | ⟨a, rfl⟩
        · exact W.aret B.exec B.bytes (B.returns.trans hret) (Or.inl ⟨n, rfl⟩) (Or.inl rfl) (hq (some .null) h1 H locs hp hw hS) hS.2.2 hd
        · exact W.aret B.exec B.bytes (B.returns.trans hret) (Or.inl ⟨n, rfl⟩) (Or.inr ⟨_, rfl⟩) (hq (some (.ref a)) h1 H locs hp hw hS) hS.2.2 hd
    have hrun := z_run (hsnd g d p l e (z_rm (d + 1) mc ms) s m (as.map (z_tr g)).toArray below meth c _ P cx hnm hfin) hS
    have hl := lv_entry (as.map (z_tr g)) (n := r.2.2.1) (by rw [z_sl_len hcat]; exact hlen)
    rw [lg_entry_eq]
    exact hrun s.heap [] _ ⟨hW.2.2, va_S.rf, z_lr_entry hlen hcat hl, Nat.zero_le _, Nat.zero_le _⟩
