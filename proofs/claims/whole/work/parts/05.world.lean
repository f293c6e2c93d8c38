/-! The small machine's cells in the great one's heap: the cell of place k lies at b + k, b the heap's size at the law's entry. -/
abbrev zG : Type := va_G × (Nat → ClassId) × (Nat × Nat × Nat) × (Nat × (Nat → Int32))
abbrev g_D (g : zG) : va_G := g.1
abbrev g_A (g : zG) : Nat → ClassId := g.2.1
abbrev g_b (g : zG) : Nat := g.2.2.1.1
abbrev g_s (g : zG) : Nat := g.2.2.1.2.1
abbrev g_t (g : zG) : Nat := g.2.2.1.2.2
abbrev g_n (g : zG) : Nat := g.2.2.2.1
abbrev g_x (g : zG) : Nat → Int32 := g.2.2.2.2
def z_tr (g : zG) (v : Value) : Value := match v with
  | .ref i => .ref (g_b g + i)
  | .retAddr k => .ref (if k = 0 then g_s g else g_t g)
  | v => v
theorem z_tr_cat (g : zG) (v : Value) : (z_tr g v).category = v.category := by cases v <;> rfl
def z_ar (g : zG) (a : vp_A) : vp_A := match a with
  | (n, .inr (.inr (.inr (.inr f)))) => (n, .inr (.inr (.inr (.inr (fun j => (f j).map (fun x => g_b g + x))))))
  | a => a
def z_ce (g : zG) (e : va_E) : va_E := match e with
  | .inl a => .inl (g_A g a.1, z_ar g a.2)
  | .inr o => .inr (o.1, o.2.map (z_tr g))
def z_ws (g : zG) (h : zH) : va_W := (List.range h.2).map (fun k => (g_b g + k, z_ce g (h.1 k)))
def z_A (g : zG) : Nat → Prop := fun q => g_b g ≤ q
def z_tys (g : zG) : List (ClassId × FieldType) := [(g_A g 0, .int), (g_A g 1, .boolean), (g_A g 2, .byte), (g_A g 3, .short), (g_A g 4, .object z_RS)]
theorem z_ws_at {g : zG} {h : zH} {k : Nat} (hk : k < h.2) : (z_ws g h)[k]? = some (g_b g + k, z_ce g (h.1 k)) := by
  simp [z_ws, hk]
theorem z_ws_len (g : zG) (h : zH) : (z_ws g h).length = h.2 := by simp [z_ws]
theorem z_ws_set {g : zG} {h : zH} {k : Nat} (e : va_E) (hk : k < h.2) : (z_ws g h).set k (g_b g + k, z_ce g e) = z_ws g (va_up h.1 k e, h.2) := by
  apply List.ext_getElem?
  intro j
  by_cases hj : j < h.2
  · rw [z_ws_at (h := (va_up h.1 k e, h.2)) hj]
    by_cases hjk : k = j
    · subst hjk
      rw [List.getElem?_set_self (by rw [z_ws_len]; exact hk)]
      simp [va_up]
    · rw [List.getElem?_set_ne hjk, z_ws_at hj]
      simp [va_up, Ne.symm hjk]
  · rw [List.getElem?_eq_none (by rw [List.length_set, z_ws_len]; omega), List.getElem?_eq_none (by rw [z_ws_len]; show h.2 ≤ j; omega)]
theorem z_ws_push {g : zG} {h : zH} (e : va_E) : z_ws g h ++ [(g_b g + h.2, z_ce g e)] = z_ws g (va_up h.1 h.2 e, h.2 + 1) := by
  unfold z_ws
  rw [List.range_succ, List.map_append]
  congr 1
  · apply List.map_congr_left
    intro k hk
    have : k < h.2 := List.mem_range.mp hk
    simp [va_up, Nat.ne_of_lt this]
  · simp [va_up]
theorem z_dis (g : zG) (h : zH) : va_D (z_A g) (z_ws g h) := by
  have key : ∀ (k : Nat) (q : Nat × va_E), (z_ws g h)[k]? = some q → k < h.2 ∧ q.1 = g_b g + k := by
    intro k q hq
    have hk : k < h.2 := by
      have := (List.getElem?_eq_some_iff.mp hq).1
      rw [z_ws_len] at this
      exact this
    rw [z_ws_at hk] at hq
    cases hq
    exact ⟨hk, rfl⟩
  refine ⟨fun i j x y hi hj hxy => ?_, fun k q hk => ?_⟩
  · have h1 := (key i x hi).2
    have h2 := (key j y hj).2
    omega
  · have h1 := (key k q hk).2
    show g_b g ≤ q.1
    omega
theorem z_isN_on {w : Cond} (h : z_isN w = true) : w.onTables = true := by
  cases w <;> first | rfl | exact Bool.noConfusion h
theorem z_isN_warm {w : Cond} (h : z_isN w = true) {s U : State} (hW : s.WarmedH U.vm) (hZ : va_Nw w s) : va_Nw w U := by
  cases w <;> first | exact va_Nw.warmF hW hZ | exact va_Nw.warmM hW hZ | exact Bool.noConfusion h
/-- what the tables say, wherever we are -/
def z_Ws (g : zG) (U : State) : Prop := va_K (g_D g) vwCl (z_tys g) U ∧ (∀ w ∈ z_NW, va_Nw w U) ∧ va_AO z_RS U
/-- what lies outside: the tokens, the script -/
def z_Wx (g : zG) (U : State) (H : Heap) : Prop := va_Z z_RA "TOKENS" "[I" (.ref (g_t g)) (z_A g) U H ∧ va_T .int (g_t g) 20 (fun j => .int (z_tok j)) (z_A g) U H ∧ va_X (g_s g) (g_n g) (g_x g) U H ∧ g_s g < g_b g
/-- what lies inside -/
def z_Wh (g : zG) (h : zH) (H : Heap) : Prop := H.size = g_b g + h.2 ∧ va_P (g_D g) vwCl (z_ws g h) H ∧ ∀ a : Nat, h.2 ≤ a → h.1 a = z_def
def z_W (g : zG) (h : zH) (U : State) : Prop := z_Ws g U ∧ z_Wx g U U.heap ∧ z_Wh g h U.heap
theorem z_Ws.warm {g : zG} {s U : State} (hW : s.WarmedH U.vm) (h : z_Ws g s) : z_Ws g U :=
  ⟨va_K.moved hW.alike h.1, fun w hw => z_isN_warm (z_NW_is w hw) hW (h.2.1 w hw), va_AO.moved hW.alike h.2.2⟩
theorem z_Ws.same {g : zG} {s U : State} (hv : s.vm = U.vm) (h : z_Ws g s) : z_Ws g U :=
  ⟨va_K.moved (by rw [hv]; exact Vm.Alike.refl _) h.1, fun w hw => va_Nw.same (z_isN_on (z_NW_is w hw)) hv (h.2.1 w hw), va_AO.moved (by rw [hv]; exact Vm.Alike.refl _) h.2.2⟩
theorem z_Wx.moved {g : zG} {s U : State} {H : Heap} (hv : s.vm.Alike U.vm) (h : z_Wx g s H) : z_Wx g U H :=
  ⟨va_Z.moved hv h.1, va_T.moved hv h.2.1, va_X.moved hv h.2.2.1, h.2.2.2⟩
theorem z_Wx.kept {g : zG} {s : State} {H H1 : Heap} (hb : g_b g ≤ H.size) (hq : ∀ a : Nat, a < H.size → ¬ z_A g a → H1[a]? = H[a]?) (h : z_Wx g s H) : z_Wx g s H1 :=
  ⟨h.1.kept hq, h.2.1.kept hq, h.2.2.1.kept (hq _ (Nat.lt_of_lt_of_le h.2.2.2 hb) (Nat.not_le.mpr h.2.2.2)), h.2.2.2⟩
/-- locals -/
def z_lr (g : zG) (ls : Array Slot) (L : zLc) (nL : Nat) : Prop := ls.size = nL ∧ L.length = nL ∧ lv_wf ls ∧ ∀ (i : Nat) (v : Value), L[i]? = some (some v) → v.category = 1 ∧ ls[i]? = some (.val (z_tr g v))
def z_lv (g : zG) : Nat → zLc → List (Nat × Value)
  | _, [] => []
  | k, none :: r => z_lv g (k + 1) r
  | k, some v :: r => (k, z_tr g v) :: z_lv g (k + 1) r
theorem z_lv_mem (g : zG) : ∀ (L : zLc) (k i : Nat) (v : Value), L[i]? = some (some v) → (k + i, z_tr g v) ∈ z_lv g k L
  | [], _, i, v, h => by simp at h
  | a :: L, k, 0, v, h => by
    rw [List.getElem?_cons_zero] at h
    cases h
    exact List.mem_cons_self
  | a :: L, k, i + 1, v, h => by
    rw [List.getElem?_cons_succ] at h
    have := z_lv_mem g L (k + 1) i v h
    rw [show k + (i + 1) = k + 1 + i by omega]
    cases a with
    | none => exact this
    | some w => exact List.mem_cons_of_mem _ this
theorem z_lv_of (g : zG) : ∀ (L : zLc) (k : Nat) (q : Nat × Value), q ∈ z_lv g k L → ∃ (i : Nat) (v : Value), L[i]? = some (some v) ∧ q = (k + i, z_tr g v)
  | [], _, q, h => by cases h
  | none :: L, k, q, h => by
    obtain ⟨i, v, h1, h2⟩ := z_lv_of g L (k + 1) q h
    exact ⟨i + 1, v, by rw [List.getElem?_cons_succ]; exact h1, by rw [h2]; congr 1; omega⟩
  | some w :: L, k, q, h => by
    rcases List.mem_cons.mp h with h | h
    · exact ⟨0, w, rfl, h⟩
    · obtain ⟨i, v, h1, h2⟩ := z_lv_of g L (k + 1) q h
      exact ⟨i + 1, v, by rw [List.getElem?_cons_succ]; exact h1, by rw [h2]; congr 1; omega⟩
theorem z_lr.has {g : zG} {ls : Array Slot} {L : zLc} {nL : Nat} (h : z_lr g ls L nL) : lv_has ls nL (z_lv g 0 L) := by
  refine ⟨h.1, h.2.2.1, fun q hq => ?_⟩
  obtain ⟨i, v, h1, h2⟩ := z_lv_of g L 0 q hq
  rw [h2, Nat.zero_add]
  exact (h.2.2.2 i v h1).2
theorem z_lr.put {g : zG} {ls ls' : Array Slot} {L : zLc} {nL i : Nat} {v : Value} (h : z_lr g ls L nL) (hv : v.category = 1)
    (h' : lv_has ls' nL ((i, z_tr g v) :: (z_lv g 0 L).filter (fun q => !(q.1 == i) && !(q.1 + 1 == i && q.2.category == 2)))) : z_lr g ls' (L.set i (some v)) nL := by
  refine ⟨h'.1, by rw [List.length_set]; exact h.2.1, h'.2.1, fun j w hj => ?_⟩
  by_cases hji : i = j
  · subst hji
    have hl : i < L.length := by
      have := (List.getElem?_eq_some_iff.mp hj).1
      rw [List.length_set] at this
      exact this
    rw [List.getElem?_set_self hl] at hj
    cases hj
    exact ⟨hv, h'.2.2 _ List.mem_cons_self⟩
  · rw [List.getElem?_set_ne hji] at hj
    have hw := (h.2.2.2 j w hj).1
    refine ⟨hw, h'.2.2 (j, z_tr g w) (List.mem_cons_of_mem _ (List.mem_filter.mpr ⟨?_, ?_⟩))⟩
    · have := z_lv_mem g L 0 j w hj
      rw [Nat.zero_add] at this
      exact this
    · simp [Ne.symm hji, z_tr_cat, hw]
/-- the rooms -/
def z_rm (d mc ms : Nat) : Room := { frames := d, cells := mc, slots := ms, locals := d * 38 }
def z_cw (r : zR) : Cond := .code r.1 r.2.1 r.2.2.1 r.2.2.2.1
def z_Q (g : zG) (P : zP) : Array Value → State → Outcome → State → Prop := fun _ st o t => (∃ (r : Option Value) (h : zH), P r h ∧ o = .returned (r.map (z_tr g)) ∧ z_W g h t) ∧ va_F (z_A g) st t
/-- the callees of depth d keep their contracts -/
def z_ok (tab : List zR) (g : zG) (l : Launch) (d : Nat) : Prop := ∀ (mi : Nat) (as : List Value) (h : zH) (mc ms : Nat) (P : zP) (r : zR), zMt tab (g_n g, g_x g) d mi as h mc ms P → tab[mi]? = some r →
  Met l r.1 (z_cw r :: z_WS) (z_rm d mc ms) (va_Pc (as.map (z_tr g)) (z_W g h)) (z_Q g P) mc ms (z_A g)
def z_cx (tab : List zR) (g : zG) (d : Nat) (p : Program) (l : Launch) (e : Env) (R : Room) (s : State) (m : MethodId) (args : Array Value) (below : List Frame) (meth : Method) (c : Code) (cc : ByteArray) (own : String) (nL : Nat) : Prop := p.tables.exec = Jvm.exec ∧ c.code = cc ∧ c.maxLocals = nL ∧ s.vm.findClass own = some m.cls ∧ (∀ w ∈ z_WS, w.before args s = true) ∧ z_Ws g s ∧ z_Wx g s s.heap ∧ g_b g ≤ s.heap.size ∧ d + 1 ≤ R.frames ∧ (d + 1) * 38 ≤ R.locals ∧ z_ok tab g l d
def z_R (g : zG) (R : Room) (s : State) (nL : Nat) (L : zLc) (h : zH) (uc us : Nat) (H : Heap) (locs : List Loc) (ls : Array Slot) : Prop := z_Wh g h H ∧ va_S (z_A g) s.heap H locs ∧ z_lr g ls L nL ∧ uc ≤ R.cells ∧ us ≤ R.slots
def z_X (g : zG) (p : Program) (l : Launch) (e : Env) (R : Room) (s : State) (m : MethodId) (args : Array Value) (below : List Frame) (meth : Method) (c : Code) (Q : State → Prop) (nL : Nat) (q : zC) : Prop := ∀ (H : Heap) (locs : List Loc) (ls : Array Slot), z_R g R s nL q.2.1 q.2.2.2.1 q.2.2.2.2.1 q.2.2.2.2.2 H locs ls → W p l e R s m args below meth c H locs q.2.2.2.2.1 q.2.2.2.2.2 Q (F0 m q.1 ls (q.2.2.1.map (z_tr g)))
def z_sn (tab : List zR) (g : zG) (d : Nat) (p : Program) (l : Launch) (e : Env) (R : Room) (s : State) (m : MethodId) (args : Array Value) (below : List Frame) (meth : Method) (c : Code) (Q : State → Prop) (nL : Nat) (P : zP) (q : Nat × zI) : Prop := ∀ (L : zLc) (st : List Value) (h : zH) (uc us : Nat) (Y : zC → Prop), q.2 (zMt tab (g_n g, g_x g) d, (R.cells, R.slots), (g_n g, g_x g)) (q.1, L, st, h, uc, us) Y P → (∀ c', Y c' → z_X g p l e R s m args below meth c Q nL c') → z_X g p l e R s m args below meth c Q nL (q.1, L, st, h, uc, us)
/-- the end of a method, by the kind of its answer -/
def z_end (g : zG) (p : Program) (l : Launch) (e : Env) (R : Room) (s : State) (m : MethodId) (args : Array Value) (below : List Frame) (meth : Method) (c : Code) (Q : State → Prop) (cc : ByteArray) (P : zP) (op : Instr) (ok : Option Value → Prop) : Prop := ∀ (r : Option Value) (h : zH) (uc us : Nat) (H : Heap) (locs : List Loc) (ls : Array Slot) (pc : Nat), ok r → P r h → z_Wh g h H → va_S (z_A g) s.heap H locs → uc ≤ R.cells → us ≤ R.slots → decode cc pc = .ok (op, 1) → W p l e R s m args below meth c H locs uc us Q (F0 m pc ls (r.toList.map (z_tr g)))
