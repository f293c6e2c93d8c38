/-! THE CLAIM OUT OF ONE WALK OF THE LAW'S BODY. Your part is whole_start (and what it stands on); all else here is the same for every law, but numbers. -/
def R_law : String := "SealedTalksLaw"
def lw_P (b : Addr) (xs : List Int32) (args : Array Value) (s : State) : Prop := args = #[.ref b] ∧ s.IntsAt b xs ∧ xs.length ≤ 3072 ∧ (Jvm.Cond.and given_1 narrow_1).before args s = true
def lw_Q (_ : Array Value) (s : State) (o : Outcome) (t : State) : Prop := o = .returned (some (.int 1)) ∧ Framed s o t [] 600000 7302250
def lw_Z (below : List Frame) (a : Array Value) (s : State) : State → Prop := fun t => ∃ o, t.status = .running ∧ Ended t below o ∧ lw_Q a s o t
/-- the law's own end, with 1 on the stack, nothing written that was there before, its room as the claim has it -/
theorem lw_ret {p : Program} {l : Launch} {e : Env} {s : State} {m : MethodId} {below : List Frame} {meth : Method} {c : Code} {b : Nat} (hx : p.tables.exec = Jvm.exec) (hb : c.code = code) (hr : meth.sig.returnType = ret) (hlocks : meth.locks = false) {pc : Nat} {H : Heap} {ls : Array Slot} (hdg : decode code pc = .ok (.ireturn, 1)) : W p l e room_1 s m #[Value.ref b] below meth c H [] 600000 7302250 (lw_Z below #[Value.ref b] s) (F0 m pc ls [.int 1]) := by
  intro T hT X
  obtain ⟨fs, hret, hrun, hended, hW, hframe⟩ := X.leave (v := some (.int 1)) (hlocks := hlocks) (fun h => by rw [hr] at h; cases h)
  have hmeth' : T.vm.method? m = some meth := X.method'
  refine ⟨T.setFrames fs, ?_, .returned (some (.int 1)), hrun, hended, rfl, ⟨_, rfl⟩, hW, hframe⟩
  jvm_step X.here [X.here.top, hx, hb, hdg, hmeth', hr, ret, narrow_b1]
  (try refine ⟨rfl, ?_⟩); (try refine ⟨rfl, ?_⟩)
  first | (intro acts; rw [hret _ acts rfl rfl rfl]) | rw [hret _ _ rfl rfl rfl]
  exact Steps.refl _
/-- what holds at the law's entry: the machine, the code, the tables' words (any of lw_tbl by 'hts w (by decide +kernel)'), the script of L ints xs at the cell b, what the Statement gives of the start (any of its parts by flat_of_before) -/
def lw_At (p : Program) (s : State) (m : MethodId) (meth : Method) (c : Code) (b L : Nat) (xs : Nat → Int32) : Prop :=
  p.tables.exec = Jvm.exec ∧ c.code = code ∧ meth.sig.returnType = ret ∧ c.maxLocals = 4 ∧ s.vm.findClass R_law = some m.cls ∧ (∀ w ∈ lw_tbl, w.before #[Value.ref b] s = true) ∧ va_X b L xs s s.heap ∧ b < s.heap.size ∧ meth.locks = false ∧ (Jvm.Cond.and given_1 narrow_1).before #[Value.ref b] s = true
/-- what is left of the claim: the law's code in the small machine comes to its end with 1 -/
def z_goal (L : Nat) (xs : Nat → Int32) : Prop := zS (zMt zTab (L, xs) 8, (600000, 7302250), (L, xs)) k_La_law (fun r _ => r = some (.int 1)) (0, [some (.retAddr 0), none, none, none], [], (fun _ => z_def, 0), 0, 0)
theorem z_arrc {args : Array Value} {s : State} {ty : FieldType} (h : (Cond.arrayClass ty).before args s = true) (hp : ∀ U cA, U.vm.findClass ("[" ++ ty.toString) = some cA → va_RA U cA ty) : ∃ cA : ClassId, ArrOfT s cA ty ∧ va_RA s cA ty := by
  obtain ⟨cA, kA, comp, h1, h2, h3⟩ := Cond.arrayClass_spec h
  exact ⟨cA, fun n z => ⟨fun k h => (by cases h), kA, h2, comp, h3⟩, hp _ _ h1⟩
theorem z_arro {args : Array Value} {s : State} {C : String} (h : (Cond.arrayOver (.object C)).before args s = true) : ∃ cA : ClassId, ArrOfT s cA (.object C) ∧ va_RA s cA (.object C) := by
  obtain ⟨comp, cA, kA, h1, -, h3, h4, h5⟩ := Cond.arrayOver_spec h
  exact ⟨cA, fun n z => ⟨fun k h => (by cases h), kA, h3, comp, h4⟩, kA, comp, h3, h4, h1, h5⟩
set_option maxRecDepth 100000 in
theorem z_tokens {b : Nat} {s : State} (hts : ∀ w ∈ lw_tbl, w.before #[Value.ref b] s = true) (hg : (Jvm.Cond.and given_1 narrow_1).before #[Value.ref b] s = true) {A : Nat → Prop} (hA : ∀ a : Nat, a < s.heap.size → ¬ A a) : ∃ t : Nat, va_Z z_RA "TOKENS" "[I" (.ref t) A s s.heap ∧ va_T .int t 20 (fun j => .int (z_tok j)) A s s.heap := by
  have hs := flat_of_before _ hg
  have harr : (Cond.arrayOf (.static "SealedTalks$Agreement" "TOKENS" "[I") .int).before #[Value.ref b] s = true := hs _ (by decide +kernel)
  have hlen : (Cond.eq (.length (.static "SealedTalks$Agreement" "TOKENS" "[I")) (.int 20)).before #[Value.ref b] s = true := hs _ (by decide +kernel)
  have hel : ∀ j, j < 20 → Cond.eq (.elem (.static "SealedTalks$Agreement" "TOKENS" "[I") (.int (Int32.ofNat j))) (.int (z_tok j)) ∈ flatC (Jvm.Cond.and given_1 narrow_1) := by decide +kernel
  obtain ⟨t, h1, h2⟩ := va_Tof (f := fun j => .int (z_tok j)) (A := A) (by decide) harr (va_eqt hlen) (fun j hj => va_eqt (hs _ (hel j hj))) hA
  exact ⟨t, va_Zref (hts (.laysStatic "SealedTalks$Agreement" "TOKENS" "[I") (by decide +kernel)) (hts (.initialized "SealedTalks$Agreement") (by decide +kernel)) h1 hA, h2⟩
def z_nth (l : List ClassId) (k : Nat) : ClassId := l.getD k 0
def z_nthf (l : List (Nat → Nat)) (k : Nat) : Nat → Nat := l.getD k (fun _ => 0)
set_option maxRecDepth 100000 in
set_option maxHeartbeats 4000000 in
theorem whole_open {p : Program} {e : Env} {s : State} {m : MethodId} {below : List Frame} {meth : Method} {c : Code} (l : Launch) {b L : Nat} {xs : Nat → Int32} (C0 : lw_At p s m meth c b L xs) (hz : z_goal L xs) : W p l e room_1 s m #[Value.ref b] below meth c s.heap [] 0 0 (lw_Z below #[Value.ref b] s) (entryFrame m ([Value.ref b] : List Value).toArray 4) := by
  obtain ⟨hx, hb, hr, hml, hown, hts, hX, hbl, hlk, hgv⟩ := C0
  have hin : ∀ w ∈ z_WS, w.before #[Value.ref b] s = true := fun w hw => hts w (z_WS_tbl w hw)
  obtain ⟨c0, s0, n0⟩ := u_known (C := R_Ag) (T := F_Ag) (N := 12) (n := 12) hin in_Ag (hts (.instantiable "SealedTalks$Agreement" 12) (by decide +kernel))
  obtain ⟨c1, s1, n1⟩ := u_known (C := R_Ch) (T := F_Ch) (N := 6) (n := 6) hin in_Ch (hts (.instantiable "SealedTalks$Channel" 6) (by decide +kernel))
  obtain ⟨c2, s2, n2⟩ := u_known (C := R_Me) (T := F_Me) (N := 3) (n := 3) hin in_Me (hts (.instantiable "SealedTalks$Messages" 3) (by decide +kernel))
  obtain ⟨c3, s3, n3⟩ := u_known (C := R_Se) (T := F_Se) (N := 8) (n := 8) hin in_Se (hts (.instantiable "SealedTalks$Session" 8) (by decide +kernel))
  obtain ⟨c4, s4, n4⟩ := u_known (C := R_Te) (T := F_Te) (N := 11) (n := 11) hin in_Te (hts (.instantiable "SealedTalks$Terms" 11) (by decide +kernel))
  obtain ⟨c5, s5, n5⟩ := u_known (C := R_St) (T := F_St) (N := 4) (n := 4) hin in_St (hts (.instantiable "SealedTalks" 4) (by decide +kernel))
  obtain ⟨c6, s6, n6⟩ := u_known (C := R_Mo) (T := F_Mo) (N := 43) (n := 43) hin in_Mo (hts (.instantiable "SealedTalksModel" 43) (by decide +kernel))
  obtain ⟨a0, a0x⟩ := z_arrc (hts (.arrayClass .int) (by decide +kernel)) (fun _ _ h => h)
  obtain ⟨a1, a1x⟩ := z_arrc (hts (.arrayClass .boolean) (by decide +kernel)) (fun _ _ h => h)
  obtain ⟨a2, a2x⟩ := z_arrc (hts (.arrayClass .byte) (by decide +kernel)) (fun _ _ h => h)
  obtain ⟨a3, a3x⟩ := z_arrc (hts (.arrayClass .short) (by decide +kernel)) (fun _ _ h => h)
  have hao : (Cond.arrayOver (.object z_RS)).before #[Value.ref b] s = true := hts _ (by decide +kernel)
  obtain ⟨a4, a4x⟩ := z_arro hao
  obtain ⟨tk, hZ, hT⟩ := z_tokens (A := fun q => s.heap.size ≤ q) hts hgv (fun a h => Nat.not_le.mpr h)
  generalize hgd : ((((z_nth [c0, c1, c2, c3, c4, c5, c6]), (z_nthf [s0, s1, s2, s3, s4, s5, s6])), z_nth [a0, a1, a2, a3, a4], (s.heap.size, b, tk), (L, xs)) : zG) = g
  have g1 : g_D g = (z_nth [c0, c1, c2, c3, c4, c5, c6], z_nthf [s0, s1, s2, s3, s4, s5, s6]) := by rw [← hgd]
  have g2 : g_A g = z_nth [a0, a1, a2, a3, a4] := by rw [← hgd]
  have g3 : g_b g = s.heap.size := by rw [← hgd]
  have g4 : g_s g = b := by rw [← hgd]
  have g5 : g_t g = tk := by rw [← hgd]
  have g6 : g_n g = L := by rw [← hgd]
  have g7 : g_x g = xs := by rw [← hgd]
  have hA : z_A g = fun q => s.heap.size ≤ q := by
    funext q
    show (g_b g ≤ q) = _
    rw [g3]
  have hK : va_K (g_D g) vwCl (z_tys g) s := by
    refine ⟨fun k q hq => ?_, fun k q hq => ?_⟩
    · rw [g1]
      have hk : k < 7 := (List.getElem?_eq_some_iff.mp hq).1
      rcases (show k = 0 ∨ k = 1 ∨ k = 2 ∨ k = 3 ∨ k = 4 ∨ k = 5 ∨ k = 6 by omega) with rfl | rfl | rfl | rfl | rfl | rfl | rfl <;> cases hq
      · exact n0
      · exact n1
      · exact n2
      · exact n3
      · exact n4
      · exact n5
      · exact n6
    · have hk : k < 5 := (List.getElem?_eq_some_iff.mp hq).1
      rcases (show k = 0 ∨ k = 1 ∨ k = 2 ∨ k = 3 ∨ k = 4 by omega) with rfl | rfl | rfl | rfl | rfl <;> cases hq <;> rw [g2]
      · exact a0x
      · exact a1x
      · exact a2x
      · exact a3x
      · exact a4x
  have hWs : z_Ws g s := ⟨hK, fun w hw => va_Nw.of (z_isN_on (z_NW_is w hw)) (hts w (z_NW_tbl w hw)), va_AO.of hao⟩
  have hWx : z_Wx g s s.heap := ⟨by rw [hA, g5]; exact hZ, by rw [hA, g5]; exact hT, by rw [g4, g6, g7]; exact hX, by rw [g3, g4]; exact hbl⟩
  have hWh : z_Wh g (fun _ => z_def, 0) s.heap := ⟨by rw [g3]; rfl, fun k q hq => by simp [z_ws] at hq, fun _ _ => rfl⟩
  have cx : z_cx zTab g 8 p l e room_1 s m #[Value.ref b] below meth c code "SealedTalksLaw" 4 := ⟨hx, hb, hml, hown, hin, hWs, hWx, by rw [g3]; exact Nat.le_refl _, by decide, by decide, z_ok_all zTab_ok g l 8⟩
  have hfin : z_fin g p l e room_1 s m #[Value.ref b] below meth c (lw_Z below #[Value.ref b] s) code (fun r _ => r = some (.int 1)) (some .boolean) := by
    refine ⟨fun h => (by cases h), fun h => (by cases h), fun _ => ?_, fun n h => (by cases h)⟩
    intro r h uc us H locs ls pc hok hp hw hS hu1 hu2 hd
    cases hp
    refine va_forget (fun q hq => ?_) ?_
    · have := hS.2.2 q hq
      rw [hA] at this
      exact this
    · refine W.widen (k := 600000) (n := 7302250) hu1 hu2 ?_
      exact lw_ret hx hb hr hlk hd
  have hall : ∀ q ∈ k_La_law, ∀ x ∈ q.2, z_sn zTab g 8 p l e room_1 s m #[Value.ref b] below meth c (lw_Z below #[Value.ref b] s) 4 (fun r _ => r = some (.int 1)) x := z_k (s_La_law_0 cx hfin) (z_k (s_La_law_1 cx hfin) (z_k (s_La_law_2 cx hfin) (z_k (s_La_law_3 cx hfin) (z_k (s_La_law_4 cx hfin) (z_k (s_La_law_5 cx hfin) (z_k (s_La_law_6 cx hfin) (z_k (s_La_law_7 cx hfin) (z_k (s_La_law_8 cx hfin) (z_k (s_La_law_9 cx hfin) (z_k (s_La_law_10 cx hfin) (z_k (s_La_law_11 cx hfin) (z_k (s_La_law_12 cx hfin) (z_k (s_La_law_13 cx hfin) (z_k (s_La_law_14 cx hfin) (z_k (s_La_law_15 cx hfin) (z_k (s_La_law_16 cx hfin) (z_k (s_La_law_17 cx hfin) (z_k (s_La_law_18 cx hfin) (z_k (s_La_law_19 cx hfin) (z_k (s_La_law_20 cx hfin) (z_k (s_La_law_21 cx hfin) (z_k0))))))))))))))))))))))
  unfold z_goal at hz
  rw [← g6, ← g7] at hz
  have hrun := z_run (g := g) (R := room_1) hall hz
  rw [lg_entry_eq]
  have htr : z_tr g (.retAddr 0) = .ref b := by
    show Value.ref (if 0 = 0 then g_s g else g_t g) = _
    rw [g4]
    rfl
  have hl := lv_entry ([Value.retAddr 0].map (z_tr g)) (n := 4) (by rw [z_sl_len (by decide)]; decide)
  have hlr := z_lr_entry (g := g) (as := [Value.retAddr 0]) (n := 4) (by decide) (by decide) hl
  have h9 := hrun s.heap [] _ ⟨hWh, va_S.rf, hlr, Nat.zero_le _, Nat.zero_le _⟩
  have hm1 : [Value.retAddr 0].map (z_tr g) = [Value.ref b] := by
    show [z_tr g (.retAddr 0)] = _
    rw [htr]
  rw [hm1] at h9
  exact h9
