/-! Each instruction of the small machine is one of the great one's: from the kit's rows. -/
section ZS1
variable {tab : List zR} {g : zG} {d : Nat} {p : Program} {l : Launch} {e : Env} {R : Room} {s : State} {m : MethodId} {args : Array Value} {below : List Frame} {meth : Method} {c : Code} {Q : State → Prop} {cc : ByteArray} {own : String} {nL : Nat} {P : zP} {pc : Nat}
theorem S_push (cx : z_cx tab g d p l e R s m args below meth c cc own nL) {n : Int} {v : Int32} (hd : decode cc pc = .ok (.iconst n, 1)) (hv : Int32.ofInt n = v) : z_sn tab g d p l e R s m args below meth c Q nL P (pc, i_push v 1) := by
  intro L st h uc us Y hi hY H locs ls hR
  dsimp only at hi hR ⊢
  exact lv_iconst cx.1 cx.2.1 hd hv (hY _ hi H locs ls hR)
theorem S_bipush (cx : z_cx tab g d p l e R s m args below meth c cc own nL) {n : Int} {v : Int32} (hd : decode cc pc = .ok (.bipush n, 2)) (hv : (Int8.ofInt n).toInt32 = v) : z_sn tab g d p l e R s m args below meth c Q nL P (pc, i_push v 2) := by
  intro L st h uc us Y hi hY H locs ls hR
  dsimp only at hi hR ⊢
  exact lv_bipush cx.1 cx.2.1 hd hv (hY _ hi H locs ls hR)
theorem S_sipush (cx : z_cx tab g d p l e R s m args below meth c cc own nL) {n : Int} {v : Int32} (hd : decode cc pc = .ok (.sipush n, 3)) (hv : (Int16.ofInt n).toInt32 = v) : z_sn tab g d p l e R s m args below meth c Q nL P (pc, i_push v 3) := by
  intro L st h uc us Y hi hY H locs ls hR
  dsimp only at hi hR ⊢
  exact lv_sipush cx.1 cx.2.1 hd hv (hY _ hi H locs ls hR)
theorem S_null (cx : z_cx tab g d p l e R s m args below meth c cc own nL) (hd : decode cc pc = .ok (.aconst_null, 1)) : z_sn tab g d p l e R s m args below meth c Q nL P (pc, i_null) := by
  intro L st h uc us Y hi hY H locs ls hR
  dsimp only at hi hR ⊢
  exact lv_null cx.1 cx.2.1 hd (hY _ hi H locs ls hR)
theorem z_ild {E : zE} {L : zLc} {st : List Value} {k : zH × Nat × Nat} {Y : zC → Prop} {i n : Nat} (h : i_ild i n E (pc, L, st, k) Y P) : ∃ v : Int32, L[i]? = some (some (.int v)) ∧ Y (pc + n, L, .int v :: st, k) := by
  unfold i_ild at h
  dsimp only at h
  split at h
  · next v hv => exact ⟨v, hv, h⟩
  · exact h.elim
theorem S_iload (cx : z_cx tab g d p l e R s m args below meth c cc own nL) {i : Nat} (hd : decode cc pc = .ok (.iload i, 2)) : z_sn tab g d p l e R s m args below meth c Q nL P (pc, i_ild i 2) := by
  intro L st h uc us Y hi hY H locs ls hR
  dsimp only at hi hR ⊢
  obtain ⟨v, hv, hi⟩ := z_ild hi
  exact lv_iload cx.1 cx.2.1 hd (hR.2.2.1.2.2.2 _ _ hv).2 (hY _ hi H locs ls hR)
theorem S_iload_n (cx : z_cx tab g d p l e R s m args below meth c cc own nL) {k : Fin 4} {i : Nat} (hd : decode cc pc = .ok (.iload_n k, 1)) (hk : (k : Nat) = i) : z_sn tab g d p l e R s m args below meth c Q nL P (pc, i_ild i 1) := by
  intro L st h uc us Y hi hY H locs ls hR
  dsimp only at hi hR ⊢
  obtain ⟨v, hv, hi⟩ := z_ild hi
  exact lv_iload_n cx.1 cx.2.1 hd hk (hR.2.2.1.2.2.2 _ _ hv).2 (hY _ hi H locs ls hR)
theorem z_ald {E : zE} {L : zLc} {st : List Value} {k : zH × Nat × Nat} {Y : zC → Prop} {i n : Nat} (h : i_ald i n E (pc, L, st, k) Y P) : ∃ v : Value, L[i]? = some (some v) ∧ (v = .null ∨ ∃ a, z_tr g v = .ref a) ∧ Y (pc + n, L, v :: st, k) := by
  unfold i_ald at h
  dsimp only at h
  split at h
  · next v hv => exact ⟨_, hv, Or.inr ⟨_, rfl⟩, h⟩
  · next v hv => exact ⟨_, hv, Or.inr ⟨_, rfl⟩, h⟩
  · next hv => exact ⟨_, hv, Or.inl rfl, h⟩
  · exact h.elim
theorem S_aload (cx : z_cx tab g d p l e R s m args below meth c cc own nL) {i : Nat} (hd : decode cc pc = .ok (.aload i, 2)) : z_sn tab g d p l e R s m args below meth c Q nL P (pc, i_ald i 2) := by
  intro L st h uc us Y hi hY H locs ls hR
  dsimp only at hi hR ⊢
  obtain ⟨v, hv, hc, hi⟩ := z_ald (g := g) hi
  have h1 := (hR.2.2.1.2.2.2 _ _ hv).2
  have h2 := hY _ hi H locs ls hR
  rcases hc with rfl | ⟨a, ha⟩
  · exact lv_aloadN cx.1 cx.2.1 hd h1 h2
  · rw [ha] at h1
    refine lv_aload cx.1 cx.2.1 hd h1 ?_
    rw [← ha]
    exact h2
theorem S_aload_n (cx : z_cx tab g d p l e R s m args below meth c cc own nL) {k : Fin 4} {i : Nat} (hd : decode cc pc = .ok (.aload_n k, 1)) (hk : (k : Nat) = i) : z_sn tab g d p l e R s m args below meth c Q nL P (pc, i_ald i 1) := by
  intro L st h uc us Y hi hY H locs ls hR
  dsimp only at hi hR ⊢
  obtain ⟨v, hv, hc, hi⟩ := z_ald (g := g) hi
  have h1 := (hR.2.2.1.2.2.2 _ _ hv).2
  have h2 := hY _ hi H locs ls hR
  rcases hc with rfl | ⟨a, ha⟩
  · exact lv_aload_nN cx.1 cx.2.1 hd hk h1 h2
  · rw [ha] at h1
    refine lv_aload_n cx.1 cx.2.1 hd hk h1 ?_
    rw [← ha]
    exact h2
theorem S_istore (cx : z_cx tab g d p l e R s m args below meth c cc own nL) {i : Nat} (hn : i < nL) (hd : decode cc pc = .ok (.istore i, 2)) : z_sn tab g d p l e R s m args below meth c Q nL P (pc, i_ist i 2) := by
  intro L st h uc us Y hi hY H locs ls hR
  dsimp only at hi hR ⊢
  unfold i_ist at hi
  dsimp only at hi
  split at hi
  · next v r => exact lv_istore cx.1 cx.2.1 hd hR.2.2.1.has hn rfl (fun ls' h' => hY _ hi H locs ls' ⟨hR.1, hR.2.1, hR.2.2.1.put (v := .int v) rfl h', hR.2.2.2⟩)
  · exact hi.elim
theorem S_istore_n (cx : z_cx tab g d p l e R s m args below meth c cc own nL) {k : Fin 4} {i : Nat} (hn : i < nL) (hd : decode cc pc = .ok (.istore_n k, 1)) (hk : (k : Nat) = i) : z_sn tab g d p l e R s m args below meth c Q nL P (pc, i_ist i 1) := by
  intro L st h uc us Y hi hY H locs ls hR
  dsimp only at hi hR ⊢
  unfold i_ist at hi
  dsimp only at hi
  split at hi
  · next v r => exact lv_istore_n cx.1 cx.2.1 hd hk hR.2.2.1.has hn rfl (fun ls' h' => hY _ hi H locs ls' ⟨hR.1, hR.2.1, hR.2.2.1.put (v := .int v) rfl h', hR.2.2.2⟩)
  · exact hi.elim
theorem S_astore (cx : z_cx tab g d p l e R s m args below meth c cc own nL) {i : Nat} (hn : i < nL) (hd : decode cc pc = .ok (.astore i, 2)) : z_sn tab g d p l e R s m args below meth c Q nL P (pc, i_ast i 2) := by
  intro L st h uc us Y hi hY H locs ls hR
  dsimp only at hi hR ⊢
  unfold i_ast at hi
  dsimp only at hi
  split at hi
  · next v r => exact lv_astore cx.1 cx.2.1 hd hR.2.2.1.has hn rfl (fun ls' h' => hY _ hi H locs ls' ⟨hR.1, hR.2.1, hR.2.2.1.put (v := .ref v) rfl h', hR.2.2.2⟩)
  · next r => exact lv_astoreN cx.1 cx.2.1 hd hR.2.2.1.has hn rfl (fun ls' h' => hY _ hi H locs ls' ⟨hR.1, hR.2.1, hR.2.2.1.put (v := .null) rfl h', hR.2.2.2⟩)
  · exact hi.elim
theorem S_astore_n (cx : z_cx tab g d p l e R s m args below meth c cc own nL) {k : Fin 4} {i : Nat} (hn : i < nL) (hd : decode cc pc = .ok (.astore_n k, 1)) (hk : (k : Nat) = i) : z_sn tab g d p l e R s m args below meth c Q nL P (pc, i_ast i 1) := by
  intro L st h uc us Y hi hY H locs ls hR
  dsimp only at hi hR ⊢
  unfold i_ast at hi
  dsimp only at hi
  split at hi
  · next v r => exact lv_astore_n cx.1 cx.2.1 hd hk hR.2.2.1.has hn rfl (fun ls' h' => hY _ hi H locs ls' ⟨hR.1, hR.2.1, hR.2.2.1.put (v := .ref v) rfl h', hR.2.2.2⟩)
  · next r => exact lv_astore_nN cx.1 cx.2.1 hd hk hR.2.2.1.has hn rfl (fun ls' h' => hY _ hi H locs ls' ⟨hR.1, hR.2.1, hR.2.2.1.put (v := .null) rfl h', hR.2.2.2⟩)
  · exact hi.elim
theorem S_iinc (cx : z_cx tab g d p l e R s m args below meth c cc own nL) {i : Nat} {n : Int} {k : Int32} (hn : i < nL) (hd : decode cc pc = .ok (.iinc i n, 3)) (hk : Int32.ofInt n = k) : z_sn tab g d p l e R s m args below meth c Q nL P (pc, i_inc i k) := by
  intro L st h uc us Y hi hY H locs ls hR
  dsimp only at hi hR ⊢
  unfold i_inc at hi
  dsimp only at hi
  split at hi
  · next v hv =>
    have hm := z_lv_mem g L 0 i (.int v) hv
    rw [Nat.zero_add] at hm
    obtain ⟨j, hj⟩ := List.getElem?_of_mem hm
    subst hk
    exact lv_iinc cx.1 cx.2.1 hd hR.2.2.1.has hj rfl hn rfl (fun ls' h' => hY _ hi H locs ls' ⟨hR.1, hR.2.1, hR.2.2.1.put (v := .int (v + Int32.ofInt n)) rfl h', hR.2.2.2⟩)
  · exact hi.elim
theorem z_bin {E : zE} {L : zLc} {st : List Value} {k : zH × Nat × Nat} {Y : zC → Prop} {f : Int32 → Int32 → Int32} (h : i_bin f E (pc, L, st, k) Y P) : ∃ (x y : Int32) (r : List Value), st = .int y :: .int x :: r ∧ Y (pc + 1, L, .int (f x y) :: r, k) := by
  unfold i_bin at h
  dsimp only at h
  split at h
  · next y x r => exact ⟨x, y, r, rfl, h⟩
  · exact h.elim
theorem S_iadd (cx : z_cx tab g d p l e R s m args below meth c cc own nL) (hd : decode cc pc = .ok (.iadd, 1)) : z_sn tab g d p l e R s m args below meth c Q nL P (pc, i_bin (fun x y => x + y)) := by
  intro L st h uc us Y hi hY H locs ls hR
  dsimp only at hi hR ⊢
  obtain ⟨x, y, r, rfl, hi⟩ := z_bin hi
  exact lv_iadd cx.1 cx.2.1 hd (hY _ hi H locs ls hR)
theorem S_isub (cx : z_cx tab g d p l e R s m args below meth c cc own nL) (hd : decode cc pc = .ok (.isub, 1)) : z_sn tab g d p l e R s m args below meth c Q nL P (pc, i_bin (fun x y => x - y)) := by
  intro L st h uc us Y hi hY H locs ls hR
  dsimp only at hi hR ⊢
  obtain ⟨x, y, r, rfl, hi⟩ := z_bin hi
  exact lv_isub cx.1 cx.2.1 hd (hY _ hi H locs ls hR)
theorem S_imul (cx : z_cx tab g d p l e R s m args below meth c cc own nL) (hd : decode cc pc = .ok (.imul, 1)) : z_sn tab g d p l e R s m args below meth c Q nL P (pc, i_bin (fun x y => x * y)) := by
  intro L st h uc us Y hi hY H locs ls hR
  dsimp only at hi hR ⊢
  obtain ⟨x, y, r, rfl, hi⟩ := z_bin hi
  exact lv_imul cx.1 cx.2.1 hd (hY _ hi H locs ls hR)
theorem S_iand (cx : z_cx tab g d p l e R s m args below meth c cc own nL) (hd : decode cc pc = .ok (.iand, 1)) : z_sn tab g d p l e R s m args below meth c Q nL P (pc, i_bin (fun x y => x &&& y)) := by
  intro L st h uc us Y hi hY H locs ls hR
  dsimp only at hi hR ⊢
  obtain ⟨x, y, r, rfl, hi⟩ := z_bin hi
  exact lv_iand cx.1 cx.2.1 hd (hY _ hi H locs ls hR)
theorem S_ior (cx : z_cx tab g d p l e R s m args below meth c cc own nL) (hd : decode cc pc = .ok (.ior, 1)) : z_sn tab g d p l e R s m args below meth c Q nL P (pc, i_bin (fun x y => x ||| y)) := by
  intro L st h uc us Y hi hY H locs ls hR
  dsimp only at hi hR ⊢
  obtain ⟨x, y, r, rfl, hi⟩ := z_bin hi
  exact lv_ior cx.1 cx.2.1 hd (hY _ hi H locs ls hR)
theorem S_ixor (cx : z_cx tab g d p l e R s m args below meth c cc own nL) (hd : decode cc pc = .ok (.ixor, 1)) : z_sn tab g d p l e R s m args below meth c Q nL P (pc, i_bin (fun x y => x ^^^ y)) := by
  intro L st h uc us Y hi hY H locs ls hR
  dsimp only at hi hR ⊢
  obtain ⟨x, y, r, rfl, hi⟩ := z_bin hi
  exact lv_ixor cx.1 cx.2.1 hd (hY _ hi H locs ls hR)
theorem S_ishl (cx : z_cx tab g d p l e R s m args below meth c cc own nL) (hd : decode cc pc = .ok (.ishl, 1)) : z_sn tab g d p l e R s m args below meth c Q nL P (pc, i_bin (fun x y => x <<< (y &&& 31))) := by
  intro L st h uc us Y hi hY H locs ls hR
  dsimp only at hi hR ⊢
  obtain ⟨x, y, r, rfl, hi⟩ := z_bin hi
  exact lv_ishl cx.1 cx.2.1 hd (hY _ hi H locs ls hR)
theorem S_ishr (cx : z_cx tab g d p l e R s m args below meth c cc own nL) (hd : decode cc pc = .ok (.ishr, 1)) : z_sn tab g d p l e R s m args below meth c Q nL P (pc, i_bin (fun x y => x >>> (y &&& 31))) := by
  intro L st h uc us Y hi hY H locs ls hR
  dsimp only at hi hR ⊢
  obtain ⟨x, y, r, rfl, hi⟩ := z_bin hi
  exact lv_ishr cx.1 cx.2.1 hd (hY _ hi H locs ls hR)
theorem S_iushr (cx : z_cx tab g d p l e R s m args below meth c cc own nL) (hd : decode cc pc = .ok (.iushr, 1)) : z_sn tab g d p l e R s m args below meth c Q nL P (pc, i_bin (fun x y => (x.toUInt32 >>> (y.toUInt32 &&& Int32.toUInt32 31)).toInt32)) := by
  intro L st h uc us Y hi hY H locs ls hR
  dsimp only at hi hR ⊢
  obtain ⟨x, y, r, rfl, hi⟩ := z_bin hi
  exact lv_iushr cx.1 cx.2.1 hd rfl (hY _ hi H locs ls hR)
theorem z_div {E : zE} {L : zLc} {st : List Value} {k : zH × Nat × Nat} {Y : zC → Prop} {f : Int32 → Int32 → Int32} (h : i_div f E (pc, L, st, k) Y P) : ∃ (x y : Int32) (r : List Value), st = .int y :: .int x :: r ∧ ¬ y = 0 ∧ Y (pc + 1, L, .int (f x y) :: r, k) := by
  unfold i_div at h
  dsimp only at h
  split at h
  · next y x r => exact ⟨x, y, r, rfl, h.1, h.2⟩
  · exact h.elim
theorem S_idiv (cx : z_cx tab g d p l e R s m args below meth c cc own nL) (hd : decode cc pc = .ok (.idiv, 1)) : z_sn tab g d p l e R s m args below meth c Q nL P (pc, i_div (fun x y => x / y)) := by
  intro L st h uc us Y hi hY H locs ls hR
  dsimp only at hi hR ⊢
  obtain ⟨x, y, r, rfl, hne, hi⟩ := z_div hi
  exact lv_idiv cx.1 cx.2.1 hd hne (hY _ hi H locs ls hR)
theorem S_irem (cx : z_cx tab g d p l e R s m args below meth c cc own nL) (hd : decode cc pc = .ok (.irem, 1)) : z_sn tab g d p l e R s m args below meth c Q nL P (pc, i_div (fun x y => x - x / y * y)) := by
  intro L st h uc us Y hi hY H locs ls hR
  dsimp only at hi hR ⊢
  obtain ⟨x, y, r, rfl, hne, hi⟩ := z_div hi
  exact lv_irem cx.1 cx.2.1 hd hne (hY _ hi H locs ls hR)
theorem z_un {E : zE} {L : zLc} {st : List Value} {k : zH × Nat × Nat} {Y : zC → Prop} {f : Int32 → Int32} (h : i_un f E (pc, L, st, k) Y P) : ∃ (x : Int32) (r : List Value), st = .int x :: r ∧ Y (pc + 1, L, .int (f x) :: r, k) := by
  unfold i_un at h
  dsimp only at h
  split at h
  · next x r => exact ⟨x, r, rfl, h⟩
  · exact h.elim
theorem S_i2b (cx : z_cx tab g d p l e R s m args below meth c cc own nL) (hd : decode cc pc = .ok (.i2b, 1)) : z_sn tab g d p l e R s m args below meth c Q nL P (pc, i_un (fun x => x.toInt8.toInt32)) := by
  intro L st h uc us Y hi hY H locs ls hR
  dsimp only at hi hR ⊢
  obtain ⟨x, r, rfl, hi⟩ := z_un hi
  exact lv_i2b cx.1 cx.2.1 hd rfl (hY _ hi H locs ls hR)
theorem S_i2s (cx : z_cx tab g d p l e R s m args below meth c cc own nL) (hd : decode cc pc = .ok (.i2s, 1)) : z_sn tab g d p l e R s m args below meth c Q nL P (pc, i_un (fun x => x.toInt16.toInt32)) := by
  intro L st h uc us Y hi hY H locs ls hR
  dsimp only at hi hR ⊢
  obtain ⟨x, r, rfl, hi⟩ := z_un hi
  exact lv_i2s cx.1 cx.2.1 hd rfl (hY _ hi H locs ls hR)
theorem S_dup (cx : z_cx tab g d p l e R s m args below meth c cc own nL) (hd : decode cc pc = .ok (.dup, 1)) : z_sn tab g d p l e R s m args below meth c Q nL P (pc, i_dup) := by
  intro L st h uc us Y hi hY H locs ls hR
  dsimp only at hi hR ⊢
  unfold i_dup at hi
  dsimp only at hi
  split at hi
  · exact lv_dup cx.1 cx.2.1 hd (by rw [z_tr_cat]; exact hi.1) (hY _ hi.2 H locs ls hR)
  · exact hi.elim
theorem S_pop (cx : z_cx tab g d p l e R s m args below meth c cc own nL) (hd : decode cc pc = .ok (.pop, 1)) : z_sn tab g d p l e R s m args below meth c Q nL P (pc, i_pop) := by
  intro L st h uc us Y hi hY H locs ls hR
  dsimp only at hi hR ⊢
  unfold i_pop at hi
  dsimp only at hi
  split at hi
  · exact lv_pop cx.1 cx.2.1 hd (by rw [z_tr_cat]; exact hi.1) (hY _ hi.2 H locs ls hR)
  · exact hi.elim
theorem S_dupx1 (cx : z_cx tab g d p l e R s m args below meth c cc own nL) (hd : decode cc pc = .ok (.dup_x1, 1)) : z_sn tab g d p l e R s m args below meth c Q nL P (pc, i_dupx1) := by
  intro L st h uc us Y hi hY H locs ls hR
  dsimp only at hi hR ⊢
  unfold i_dupx1 at hi
  dsimp only at hi
  split at hi
  · exact lv_dup_x1 cx.1 cx.2.1 hd (by rw [z_tr_cat]; exact hi.1) (by rw [z_tr_cat]; exact hi.2.1) (hY _ hi.2.2 H locs ls hR)
  · exact hi.elim
theorem S_dupx2 (cx : z_cx tab g d p l e R s m args below meth c cc own nL) (hd : decode cc pc = .ok (.dup_x2, 1)) : z_sn tab g d p l e R s m args below meth c Q nL P (pc, i_dupx2) := by
  intro L st h uc us Y hi hY H locs ls hR
  dsimp only at hi hR ⊢
  unfold i_dupx2 at hi
  dsimp only at hi
  split at hi
  · exact lv_dup_x2 cx.1 cx.2.1 hd (by rw [z_tr_cat]; exact hi.1) (by rw [z_tr_cat]; exact hi.2.1) (by rw [z_tr_cat]; exact hi.2.2.1) (hY _ hi.2.2.2 H locs ls hR)
  · exact hi.elim
theorem S_dup2 (cx : z_cx tab g d p l e R s m args below meth c cc own nL) (hd : decode cc pc = .ok (.dup2, 1)) : z_sn tab g d p l e R s m args below meth c Q nL P (pc, i_dup2) := by
  intro L st h uc us Y hi hY H locs ls hR
  dsimp only at hi hR ⊢
  unfold i_dup2 at hi
  dsimp only at hi
  split at hi
  · exact lv_dup2_11 cx.1 cx.2.1 hd (by rw [z_tr_cat]; exact hi.1) (by rw [z_tr_cat]; exact hi.2.1) (hY _ hi.2.2 H locs ls hR)
  · exact hi.elim
theorem z_if {E : zE} {L : zLc} {st : List Value} {k : zH × Nat × Nat} {Y : zC → Prop} {f f2 : Int32 → Prop} {t : Nat} (h : i_if f f2 t E (pc, L, st, k) Y P) : ∃ (x : Int32) (r : List Value), st = .int x :: r ∧ (f x → Y (t, L, r, k)) ∧ (f2 x → Y (pc + 3, L, r, k)) := by
  unfold i_if at h
  dsimp only at h
  split at h
  · next x r => exact ⟨x, r, rfl, h.1, h.2⟩
  · exact h.elim
theorem z_icmp {E : zE} {L : zLc} {st : List Value} {k : zH × Nat × Nat} {Y : zC → Prop} {f f2 : Int32 → Int32 → Prop} {t : Nat} (h : i_icmp f f2 t E (pc, L, st, k) Y P) : ∃ (x y : Int32) (r : List Value), st = .int y :: .int x :: r ∧ (f x y → Y (t, L, r, k)) ∧ (f2 x y → Y (pc + 3, L, r, k)) := by
  unfold i_icmp at h
  dsimp only at h
  split at h
  · next y x r => exact ⟨x, y, r, rfl, h.1, h.2⟩
  · exact h.elim
theorem S_if_eq (cx : z_cx tab g d p l e R s m args below meth c cc own nL) {off : Int} {t : Nat} (hd : decode cc pc = .ok (.ifCond .eq off, 3)) (ht : (pc : Int) + off = (t : Int)) : z_sn tab g d p l e R s m args below meth c Q nL P (pc, i_if (fun x => x = 0) (fun x => ¬ x = 0) t) := by
  intro L st h uc us Y hi hY H locs ls hR
  dsimp only at hi hR ⊢
  obtain ⟨x, r, rfl, h1, h2⟩ := z_if hi
  exact lv_if_eq cx.1 cx.2.1 hd ht (fun q => hY _ (h1 q) H locs ls hR) (fun q => hY _ (h2 q) H locs ls hR)
theorem S_if_ne (cx : z_cx tab g d p l e R s m args below meth c cc own nL) {off : Int} {t : Nat} (hd : decode cc pc = .ok (.ifCond .ne off, 3)) (ht : (pc : Int) + off = (t : Int)) : z_sn tab g d p l e R s m args below meth c Q nL P (pc, i_if (fun x => ¬ x = 0) (fun x => x = 0) t) := by
  intro L st h uc us Y hi hY H locs ls hR
  dsimp only at hi hR ⊢
  obtain ⟨x, r, rfl, h1, h2⟩ := z_if hi
  exact lv_if_ne cx.1 cx.2.1 hd ht (fun q => hY _ (h1 q) H locs ls hR) (fun q => hY _ (h2 q) H locs ls hR)
theorem S_if_lt (cx : z_cx tab g d p l e R s m args below meth c cc own nL) {off : Int} {t : Nat} (hd : decode cc pc = .ok (.ifCond .lt off, 3)) (ht : (pc : Int) + off = (t : Int)) : z_sn tab g d p l e R s m args below meth c Q nL P (pc, i_if (fun x => x < 0) (fun x => ¬ x < 0) t) := by
  intro L st h uc us Y hi hY H locs ls hR
  dsimp only at hi hR ⊢
  obtain ⟨x, r, rfl, h1, h2⟩ := z_if hi
  exact lv_if_lt cx.1 cx.2.1 hd ht (fun q => hY _ (h1 q) H locs ls hR) (fun q => hY _ (h2 q) H locs ls hR)
theorem S_if_ge (cx : z_cx tab g d p l e R s m args below meth c cc own nL) {off : Int} {t : Nat} (hd : decode cc pc = .ok (.ifCond .ge off, 3)) (ht : (pc : Int) + off = (t : Int)) : z_sn tab g d p l e R s m args below meth c Q nL P (pc, i_if (fun x => 0 ≤ x) (fun x => ¬ 0 ≤ x) t) := by
  intro L st h uc us Y hi hY H locs ls hR
  dsimp only at hi hR ⊢
  obtain ⟨x, r, rfl, h1, h2⟩ := z_if hi
  exact lv_if_ge cx.1 cx.2.1 hd ht (fun q => hY _ (h1 q) H locs ls hR) (fun q => hY _ (h2 q) H locs ls hR)
theorem S_if_gt (cx : z_cx tab g d p l e R s m args below meth c cc own nL) {off : Int} {t : Nat} (hd : decode cc pc = .ok (.ifCond .gt off, 3)) (ht : (pc : Int) + off = (t : Int)) : z_sn tab g d p l e R s m args below meth c Q nL P (pc, i_if (fun x => 0 < x) (fun x => ¬ 0 < x) t) := by
  intro L st h uc us Y hi hY H locs ls hR
  dsimp only at hi hR ⊢
  obtain ⟨x, r, rfl, h1, h2⟩ := z_if hi
  exact lv_if_gt cx.1 cx.2.1 hd ht (fun q => hY _ (h1 q) H locs ls hR) (fun q => hY _ (h2 q) H locs ls hR)
theorem S_if_le (cx : z_cx tab g d p l e R s m args below meth c cc own nL) {off : Int} {t : Nat} (hd : decode cc pc = .ok (.ifCond .le off, 3)) (ht : (pc : Int) + off = (t : Int)) : z_sn tab g d p l e R s m args below meth c Q nL P (pc, i_if (fun x => x ≤ 0) (fun x => ¬ x ≤ 0) t) := by
  intro L st h uc us Y hi hY H locs ls hR
  dsimp only at hi hR ⊢
  obtain ⟨x, r, rfl, h1, h2⟩ := z_if hi
  exact lv_if_le cx.1 cx.2.1 hd ht (fun q => hY _ (h1 q) H locs ls hR) (fun q => hY _ (h2 q) H locs ls hR)
theorem S_icmp_eq (cx : z_cx tab g d p l e R s m args below meth c cc own nL) {off : Int} {t : Nat} (hd : decode cc pc = .ok (.if_icmp .eq off, 3)) (ht : (pc : Int) + off = (t : Int)) : z_sn tab g d p l e R s m args below meth c Q nL P (pc, i_icmp (fun x y => x = y) (fun x y => ¬ x = y) t) := by
  intro L st h uc us Y hi hY H locs ls hR
  dsimp only at hi hR ⊢
  obtain ⟨x, y, r, rfl, h1, h2⟩ := z_icmp hi
  exact lv_icmp_eq cx.1 cx.2.1 hd ht (fun q => hY _ (h1 q) H locs ls hR) (fun q => hY _ (h2 q) H locs ls hR)
theorem S_icmp_ne (cx : z_cx tab g d p l e R s m args below meth c cc own nL) {off : Int} {t : Nat} (hd : decode cc pc = .ok (.if_icmp .ne off, 3)) (ht : (pc : Int) + off = (t : Int)) : z_sn tab g d p l e R s m args below meth c Q nL P (pc, i_icmp (fun x y => ¬ x = y) (fun x y => x = y) t) := by
  intro L st h uc us Y hi hY H locs ls hR
  dsimp only at hi hR ⊢
  obtain ⟨x, y, r, rfl, h1, h2⟩ := z_icmp hi
  exact lv_icmp_ne cx.1 cx.2.1 hd ht (fun q => hY _ (h1 q) H locs ls hR) (fun q => hY _ (h2 q) H locs ls hR)
theorem S_icmp_lt (cx : z_cx tab g d p l e R s m args below meth c cc own nL) {off : Int} {t : Nat} (hd : decode cc pc = .ok (.if_icmp .lt off, 3)) (ht : (pc : Int) + off = (t : Int)) : z_sn tab g d p l e R s m args below meth c Q nL P (pc, i_icmp (fun x y => x < y) (fun x y => ¬ x < y) t) := by
  intro L st h uc us Y hi hY H locs ls hR
  dsimp only at hi hR ⊢
  obtain ⟨x, y, r, rfl, h1, h2⟩ := z_icmp hi
  exact lv_icmp_lt cx.1 cx.2.1 hd ht (fun q => hY _ (h1 q) H locs ls hR) (fun q => hY _ (h2 q) H locs ls hR)
theorem S_icmp_ge (cx : z_cx tab g d p l e R s m args below meth c cc own nL) {off : Int} {t : Nat} (hd : decode cc pc = .ok (.if_icmp .ge off, 3)) (ht : (pc : Int) + off = (t : Int)) : z_sn tab g d p l e R s m args below meth c Q nL P (pc, i_icmp (fun x y => y ≤ x) (fun x y => ¬ y ≤ x) t) := by
  intro L st h uc us Y hi hY H locs ls hR
  dsimp only at hi hR ⊢
  obtain ⟨x, y, r, rfl, h1, h2⟩ := z_icmp hi
  exact lv_icmp_ge cx.1 cx.2.1 hd ht (fun q => hY _ (h1 q) H locs ls hR) (fun q => hY _ (h2 q) H locs ls hR)
theorem S_icmp_gt (cx : z_cx tab g d p l e R s m args below meth c cc own nL) {off : Int} {t : Nat} (hd : decode cc pc = .ok (.if_icmp .gt off, 3)) (ht : (pc : Int) + off = (t : Int)) : z_sn tab g d p l e R s m args below meth c Q nL P (pc, i_icmp (fun x y => y < x) (fun x y => ¬ y < x) t) := by
  intro L st h uc us Y hi hY H locs ls hR
  dsimp only at hi hR ⊢
  obtain ⟨x, y, r, rfl, h1, h2⟩ := z_icmp hi
  exact lv_icmp_gt cx.1 cx.2.1 hd ht (fun q => hY _ (h1 q) H locs ls hR) (fun q => hY _ (h2 q) H locs ls hR)
theorem S_icmp_le (cx : z_cx tab g d p l e R s m args below meth c cc own nL) {off : Int} {t : Nat} (hd : decode cc pc = .ok (.if_icmp .le off, 3)) (ht : (pc : Int) + off = (t : Int)) : z_sn tab g d p l e R s m args below meth c Q nL P (pc, i_icmp (fun x y => x ≤ y) (fun x y => ¬ x ≤ y) t) := by
  intro L st h uc us Y hi hY H locs ls hR
  dsimp only at hi hR ⊢
  obtain ⟨x, y, r, rfl, h1, h2⟩ := z_icmp hi
  exact lv_icmp_le cx.1 cx.2.1 hd ht (fun q => hY _ (h1 q) H locs ls hR) (fun q => hY _ (h2 q) H locs ls hR)
theorem S_ifnull (cx : z_cx tab g d p l e R s m args below meth c cc own nL) {off : Int} {t : Nat} (hd : decode cc pc = .ok (.ifnull off, 3)) (ht : (pc : Int) + off = (t : Int)) : z_sn tab g d p l e R s m args below meth c Q nL P (pc, i_nul t) := by
  intro L st h uc us Y hi hY H locs ls hR
  dsimp only at hi hR ⊢
  unfold i_nul at hi
  dsimp only at hi
  split at hi
  · exact lv_ifnullN cx.1 cx.2.1 hd ht (hY _ hi H locs ls hR)
  · exact lv_ifnull cx.1 cx.2.1 hd (hY _ hi H locs ls hR)
  · exact hi.elim
theorem S_ifnonnull (cx : z_cx tab g d p l e R s m args below meth c cc own nL) {off : Int} {t : Nat} (hd : decode cc pc = .ok (.ifnonnull off, 3)) (ht : (pc : Int) + off = (t : Int)) : z_sn tab g d p l e R s m args below meth c Q nL P (pc, i_nnl t) := by
  intro L st h uc us Y hi hY H locs ls hR
  dsimp only at hi hR ⊢
  unfold i_nnl at hi
  dsimp only at hi
  split at hi
  · exact lv_ifnonnullN cx.1 cx.2.1 hd (hY _ hi H locs ls hR)
  · exact lv_ifnonnull cx.1 cx.2.1 hd ht (hY _ hi H locs ls hR)
  · exact hi.elim
theorem S_goto (cx : z_cx tab g d p l e R s m args below meth c cc own nL) {off : Int} {t : Nat} (hd : decode cc pc = .ok (.goto off, 3)) (ht : (pc : Int) + off = (t : Int)) : z_sn tab g d p l e R s m args below meth c Q nL P (pc, i_goto t) := by
  intro L st h uc us Y hi hY H locs ls hR
  dsimp only at hi hR ⊢
  exact lv_goto cx.1 cx.2.1 hd ht (hY _ hi H locs ls hR)
theorem S_tsw (cx : z_cx tab g d p l e R s m args below meth c cc own nL) {df lo hi0 : Int} {offs : Array Int} {len dt : Nat} {ts : List Nat} (hd : decode cc pc = .ok (.tableswitch df lo hi0 offs, len)) (ht : (pc : Int) + df = (dt : Int)) (hn : hi0 = lo + ts.length - 1) (ho : offs.toList.map (fun o => (pc : Int) + o) = ts.map (fun t : Nat => (t : Int))) : z_sn tab g d p l e R s m args below meth c Q nL P (pc, i_tsw lo ts dt) := by
  intro L st h uc us Y hi hY H locs ls hR
  dsimp only at hi hR ⊢
  unfold i_tsw at hi
  dsimp only at hi
  split at hi
  · next x r =>
    by_cases h1 : x.toInt < lo
    · exact lv_tableOut cx.1 cx.2.1 hd (Or.inl h1) ht (hY _ (hi.2 (Or.inl h1)) H locs ls hR)
    · by_cases h2 : hi0 < x.toInt
      · exact lv_tableOut cx.1 cx.2.1 hd (Or.inr h2) ht (hY _ (hi.2 (Or.inr (by omega))) H locs ls hR)
      · have hk : (x.toInt - lo).toNat < ts.length := by omega
        have e1 : (ts.map (fun t : Nat => (t : Int)))[(x.toInt - lo).toNat]? = some ((ts[(x.toInt - lo).toNat] : Nat) : Int) := by simp [hk]
        rw [← ho, List.getElem?_map] at e1
        cases e2 : offs.toList[(x.toInt - lo).toNat]? with
        | none => rw [e2] at e1; cases e1
        | some off =>
          rw [e2] at e1
          have e3 : (pc : Int) + off = ((ts[(x.toInt - lo).toNat] : Nat) : Int) := Option.some.inj e1
          exact lv_tableIn cx.1 cx.2.1 hd h1 h2 (by rw [← Array.getElem?_toList]; exact e2) e3 (hY _ (hi.1 (x.toInt - lo).toNat _ (List.getElem?_eq_getElem hk) (by omega)) H locs ls hR)
  · exact hi.elim
end ZS1
