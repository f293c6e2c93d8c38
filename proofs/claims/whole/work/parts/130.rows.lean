/-! Each method of SealedTalks is sound (0). By program. -/
section ZR30
variable {g : zG} {d : Nat} {p : Program} {l : Launch} {e : Env} {R : Room} {s : State} {m : MethodId} {args : Array Value} {below : List Frame} {meth : Method} {c : Code} {Q : State → Prop} {P : zP}
set_option maxRecDepth 100000 in
set_option maxHeartbeats 4000000 in
theorem s_St_init_0 (cx : z_cx zTab g d p l e R s m args below meth c prog_1_method_1_code "SealedTalks" 1) (hn : meth.name = "<init>") (hf : z_fin g p l e R s m args below meth c Q prog_1_method_1_code P none) : ∀ x ∈ k_St_init_0, z_sn zTab g d p l e R s m args below meth c Q 1 P x := by
  unfold k_St_init_0
  refine z_k (S_aload_n cx (k := 0) (by decide +kernel) rfl) ?_
  refine z_k (S_oini cx w_14 w_15 w_16 (by decide +kernel)) ?_
  refine z_k (S_aload_n cx (k := 0) (by decide +kernel) rfl) ?_
  refine z_k (S_new cx (T := F_Te) (ty := t_Te) rfl in_Te t_Te_ok w_17 w_18 w_2 fs_Te (by decide +kernel)) ?_
  refine z_k (S_dup cx (by decide +kernel)) ?_
  refine z_k (S_callIN cx (r := r_Te_init) rfl ⟨w_21, w_2, by decide, by decide +kernel⟩ w_19 w_20 rfl rfl (by decide +kernel)) ?_
  refine z_k (S_putF cx (T := F_St) (N := 4) (k := 0) (ty := t_St) rfl in_St t_St_ok n_St (by decide) rfl w_77 rfl hn rfl (Or.inr (Or.inr ⟨rfl, Or.inl ⟨_, rfl⟩⟩)) (by decide +kernel)) ?_
  refine z_k (S_aload_n cx (k := 0) (by decide +kernel) rfl) ?_
  refine z_k (S_new cx (T := F_Me) (ty := t_Me) rfl in_Me t_Me_ok w_59 w_60 w_3 fs_Me (by decide +kernel)) ?_
  refine z_k (S_dup cx (by decide +kernel)) ?_
  refine z_k (S_callIN cx (r := r_Me_init) rfl ⟨w_63, w_3, by decide, by decide +kernel⟩ w_61 w_62 rfl rfl (by decide +kernel)) ?_
  refine z_k (S_putF cx (T := F_St) (N := 4) (k := 1) (ty := t_St) rfl in_St t_St_ok n_St (by decide) rfl w_78 rfl hn rfl (Or.inr (Or.inr ⟨rfl, Or.inl ⟨_, rfl⟩⟩)) (by decide +kernel)) ?_
  refine z_k (S_aload_n cx (k := 0) (by decide +kernel) rfl) ?_
  refine z_k (S_bipush cx (n := 12) (by decide +kernel) (by decide)) ?_
  refine z_k (S_newq cx w_75 (by decide +kernel)) ?_
  refine z_k (S_putF cx (T := F_St) (N := 4) (k := 2) (ty := t_St) rfl in_St t_St_ok n_St (by decide) rfl w_79 rfl hn rfl (Or.inr (Or.inr ⟨rfl, Or.inr ⟨_, rfl⟩⟩)) (by decide +kernel)) ?_
  refine z_k (S_aload_n cx (k := 0) (by decide +kernel) rfl) ?_
  refine z_k (S_push cx (n := 0) (by decide +kernel) (by decide)) ?_
  refine z_k (S_putf cx (T := F_St) (N := 4) (k := 3) (ty := t_St) rfl in_St t_St_ok n_St (by decide) rfl w_80 rfl (Or.inl ⟨rfl, rfl⟩) (by decide +kernel)) ?_
  refine z_k (S_vret (hf.1 rfl) (by decide +kernel)) ?_
  exact z_k0
theorem s_St_init : z_snd zTab r_St_init := ⟨by decide +kernel, w_13, fun g d p l e R s m args below meth c Q P cx hn hf => z_k (s_St_init_0 cx hn hf) (z_k0)⟩
set_option maxRecDepth 100000 in
set_option maxHeartbeats 4000000 in
theorem s_St_start_0 (cx : z_cx zTab g d p l e R s m args below meth c prog_1_method_2_code "SealedTalks" 8) (hn : meth.name = "start") (hf : z_fin g p l e R s m args below meth c Q prog_1_method_2_code P (some .int)) : ∀ x ∈ k_St_start_0, z_sn zTab g d p l e R s m args below meth c Q 8 P x := by
  unfold k_St_start_0
  refine z_k (S_iload_n cx (k := 1) (by decide +kernel) rfl) ?_
  refine z_k (S_push cx (n := 1) (by decide +kernel) (by decide)) ?_
  refine z_k (S_icmp_ne cx (off := 11) (by decide +kernel) (by decide)) ?_
  refine z_k (S_iload_n cx (k := 2) (by decide +kernel) rfl) ?_
  refine z_k (S_if_eq cx (off := 7) (by decide +kernel) (by decide)) ?_
  refine z_k (S_push cx (n := 1) (by decide +kernel) (by decide)) ?_
  refine z_k (S_goto cx (off := 4) (by decide +kernel) (by decide)) ?_
  refine z_k (S_push cx (n := 0) (by decide +kernel) (by decide)) ?_
  refine z_k (S_istore cx (by decide) (by decide +kernel)) ?_
  refine z_k (S_iload_n cx (k := 1) (by decide +kernel) rfl) ?_
  refine z_k (S_if_eq cx (off := 10) (by decide +kernel) (by decide)) ?_
  refine z_k (S_iload_n cx (k := 1) (by decide +kernel) rfl) ?_
  refine z_k (S_push cx (n := 1) (by decide +kernel) (by decide)) ?_
  refine z_k (S_icmp_eq cx (off := 5) (by decide +kernel) (by decide)) ?_
  refine z_k (S_push cx (n := -1) (by decide +kernel) (by decide)) ?_
  refine z_k (S_iret (hf.2.1 rfl) (by decide +kernel)) ?_
  refine z_k (S_iload_n cx (k := 3) (by decide +kernel) rfl) ?_
  refine z_k (S_callS cx (r := r_St_isStaticKey) rfl ⟨w_96, w_1, by decide, by decide +kernel⟩ w_94 w_95 (by decide +kernel)) ?_
  refine z_k (S_if_eq cx (off := 16) (by decide +kernel) (by decide)) ?_
  refine z_k (S_iload cx (by decide +kernel)) ?_
  refine z_k (S_if_eq cx (off := 13) (by decide +kernel) (by decide)) ?_
  refine z_k (S_iload cx (by decide +kernel)) ?_
  refine z_k (S_callS cx (r := r_St_isStaticKey) rfl ⟨w_96, w_1, by decide, by decide +kernel⟩ w_94 w_95 (by decide +kernel)) ?_
  refine z_k (S_if_ne cx (off := 5) (by decide +kernel) (by decide)) ?_
  exact z_k0
set_option maxRecDepth 100000 in
set_option maxHeartbeats 4000000 in
theorem s_St_start_1 (cx : z_cx zTab g d p l e R s m args below meth c prog_1_method_2_code "SealedTalks" 8) (hn : meth.name = "start") (hf : z_fin g p l e R s m args below meth c Q prog_1_method_2_code P (some .int)) : ∀ x ∈ k_St_start_1, z_sn zTab g d p l e R s m args below meth c Q 8 P x := by
  unfold k_St_start_1
  refine z_k (S_push cx (n := -1) (by decide +kernel) (by decide)) ?_
  refine z_k (S_iret (hf.2.1 rfl) (by decide +kernel)) ?_
  refine z_k (S_aload_n cx (k := 0) (by decide +kernel) rfl) ?_
  refine z_k (S_getf cx (T := F_St) (N := 4) (k := 3) rfl in_St (by decide) rfl w_80 (by decide +kernel)) ?_
  refine z_k (S_bipush cx (n := 12) (by decide +kernel) (by decide)) ?_
  refine z_k (S_icmp_lt cx (off := 6) (by decide +kernel) (by decide)) ?_
  refine z_k (S_bipush cx (n := -4) (by decide +kernel) (by decide)) ?_
  refine z_k (S_iret (hf.2.1 rfl) (by decide +kernel)) ?_
  refine z_k (S_new cx (T := F_Se) (ty := t_Se) rfl in_Se t_Se_ok w_75 w_97 w_5 fs_Se (by decide +kernel)) ?_
  refine z_k (S_dup cx (by decide +kernel)) ?_
  refine z_k (S_aload_n cx (k := 0) (by decide +kernel) rfl) ?_
  refine z_k (S_getf cx (T := F_St) (N := 4) (k := 0) rfl in_St (by decide) rfl w_77 (by decide +kernel)) ?_
  refine z_k (S_callI cx (r := r_Se_init) rfl ⟨w_100, w_5, by decide, by decide +kernel⟩ w_98 w_99 rfl rfl (by decide +kernel)) ?_
  refine z_k (S_astore cx (by decide) (by decide +kernel)) ?_
  refine z_k (S_aload cx (by decide +kernel)) ?_
  refine z_k (S_getfN cx (T := F_Se) (N := 8) (k := 2) rfl in_Se (by decide) rfl w_180 (by decide +kernel)) ?_
  refine z_k (S_iload_n cx (k := 1) (by decide +kernel) rfl) ?_
  refine z_k (S_iload_n cx (k := 2) (by decide +kernel) rfl) ?_
  refine z_k (S_iload_n cx (k := 3) (by decide +kernel) rfl) ?_
  refine z_k (S_iload cx (by decide +kernel)) ?_
  refine z_k (S_if_eq cx (off := 8) (by decide +kernel) (by decide)) ?_
  refine z_k (S_iload cx (by decide +kernel)) ?_
  refine z_k (S_goto cx (off := 4) (by decide +kernel) (by decide)) ?_
  refine z_k (S_push cx (n := 0) (by decide +kernel) (by decide)) ?_
  exact z_k0
set_option maxRecDepth 100000 in
set_option maxHeartbeats 4000000 in
theorem s_St_start_2 (cx : z_cx zTab g d p l e R s m args below meth c prog_1_method_2_code "SealedTalks" 8) (hn : meth.name = "start") (hf : z_fin g p l e R s m args below meth c Q prog_1_method_2_code P (some .int)) : ∀ x ∈ k_St_start_2, z_sn zTab g d p l e R s m args below meth c Q 8 P x := by
  unfold k_St_start_2
  refine z_k (S_iload cx (by decide +kernel)) ?_
  refine z_k (S_callV cx (T := F_Ag) (N := 12) (r := r_Ag_begin) rfl ⟨w_209, w_7, by decide, by decide +kernel⟩ w_206 w_207 w_208 rfl (by decide +kernel)) ?_
  refine z_k (S_aload_n cx (k := 0) (by decide +kernel) rfl) ?_
  refine z_k (S_getf cx (T := F_St) (N := 4) (k := 2) rfl in_St (by decide) rfl w_79 (by decide +kernel)) ?_
  refine z_k (S_aload_n cx (k := 0) (by decide +kernel) rfl) ?_
  refine z_k (S_getf cx (T := F_St) (N := 4) (k := 3) rfl in_St (by decide) rfl w_80 (by decide +kernel)) ?_
  refine z_k (S_aload cx (by decide +kernel)) ?_
  refine z_k (S_aast cx (T := F_Se) (N := 8) rfl (by decide +kernel)) ?_
  refine z_k (S_aload_n cx (k := 0) (by decide +kernel) rfl) ?_
  refine z_k (S_dup cx (by decide +kernel)) ?_
  refine z_k (S_getf cx (T := F_St) (N := 4) (k := 3) rfl in_St (by decide) rfl w_80 (by decide +kernel)) ?_
  refine z_k (S_push cx (n := 1) (by decide +kernel) (by decide)) ?_
  refine z_k (S_iadd cx (by decide +kernel)) ?_
  refine z_k (S_putf cx (T := F_St) (N := 4) (k := 3) (ty := t_St) rfl in_St t_St_ok n_St (by decide) rfl w_80 rfl (Or.inl ⟨rfl, rfl⟩) (by decide +kernel)) ?_
  refine z_k (S_aload_n cx (k := 0) (by decide +kernel) rfl) ?_
  refine z_k (S_getf cx (T := F_St) (N := 4) (k := 3) rfl in_St (by decide) rfl w_80 (by decide +kernel)) ?_
  refine z_k (S_push cx (n := 1) (by decide +kernel) (by decide)) ?_
  refine z_k (S_isub cx (by decide +kernel)) ?_
  refine z_k (S_iret (hf.2.1 rfl) (by decide +kernel)) ?_
  exact z_k0
theorem s_St_start : z_snd zTab r_St_start := ⟨by decide +kernel, w_93, fun g d p l e R s m args below meth c Q P cx hn hf => z_k (s_St_start_0 cx hn hf) (z_k (s_St_start_1 cx hn hf) (z_k (s_St_start_2 cx hn hf) (z_k0)))⟩
set_option maxRecDepth 100000 in
set_option maxHeartbeats 4000000 in
theorem s_St_write_0 (cx : z_cx zTab g d p l e R s m args below meth c prog_1_method_3_code "SealedTalks" 4) (hn : meth.name = "write") (hf : z_fin g p l e R s m args below meth c Q prog_1_method_3_code P (some .int)) : ∀ x ∈ k_St_write_0, z_sn zTab g d p l e R s m args below meth c Q 4 P x := by
  unfold k_St_write_0
  refine z_k (S_aload_n cx (k := 0) (by decide +kernel) rfl) ?_
  refine z_k (S_iload_n cx (k := 1) (by decide +kernel) rfl) ?_
  refine z_k (S_callV cx (T := F_St) (N := 4) (r := r_St_sessionAt) rfl ⟨w_240, w_1, by decide, by decide +kernel⟩ w_237 w_239 wp_2 rfl (by decide +kernel)) ?_
  refine z_k (S_astore_n cx (by decide) (k := 3) (by decide +kernel) rfl) ?_
  refine z_k (S_aload_n cx (k := 3) (by decide +kernel) rfl) ?_
  refine z_k (S_ifnonnull cx (off := 5) (by decide +kernel) (by decide)) ?_
  refine z_k (S_push cx (n := -1) (by decide +kernel) (by decide)) ?_
  refine z_k (S_iret (hf.2.1 rfl) (by decide +kernel)) ?_
  refine z_k (S_aload_n cx (k := 3) (by decide +kernel) rfl) ?_
  refine z_k (S_getfN cx (T := F_Se) (N := 8) (k := 4) rfl in_Se (by decide) rfl w_183 (by decide +kernel)) ?_
  refine z_k (S_if_eq cx (off := 6) (by decide +kernel) (by decide)) ?_
  refine z_k (S_bipush cx (n := -2) (by decide +kernel) (by decide)) ?_
  refine z_k (S_iret (hf.2.1 rfl) (by decide +kernel)) ?_
  refine z_k (S_aload_n cx (k := 3) (by decide +kernel) rfl) ?_
  refine z_k (S_getfN cx (T := F_Se) (N := 8) (k := 2) rfl in_Se (by decide) rfl w_180 (by decide +kernel)) ?_
  refine z_k (S_callV cx (T := F_Ag) (N := 12) (r := r_Ag_isOwnTurn) rfl ⟨w_244, w_7, by decide, by decide +kernel⟩ w_241 w_242 w_243 rfl (by decide +kernel)) ?_
  refine z_k (S_if_ne cx (off := 6) (by decide +kernel) (by decide)) ?_
  refine z_k (S_bipush cx (n := -3) (by decide +kernel) (by decide)) ?_
  refine z_k (S_iret (hf.2.1 rfl) (by decide +kernel)) ?_
  refine z_k (S_aload_n cx (k := 0) (by decide +kernel) rfl) ?_
  refine z_k (S_getf cx (T := F_St) (N := 4) (k := 1) rfl in_St (by decide) rfl w_78 (by decide +kernel)) ?_
  refine z_k (S_callV cx (T := F_Me) (N := 3) (r := r_Me_isFull) rfl ⟨w_252, w_3, by decide, by decide +kernel⟩ w_249 w_250 w_251 rfl (by decide +kernel)) ?_
  refine z_k (S_if_eq cx (off := 6) (by decide +kernel) (by decide)) ?_
  refine z_k (S_bipush cx (n := -4) (by decide +kernel) (by decide)) ?_
  exact z_k0
set_option maxRecDepth 100000 in
set_option maxHeartbeats 4000000 in
theorem s_St_write_1 (cx : z_cx zTab g d p l e R s m args below meth c prog_1_method_3_code "SealedTalks" 4) (hn : meth.name = "write") (hf : z_fin g p l e R s m args below meth c Q prog_1_method_3_code P (some .int)) : ∀ x ∈ k_St_write_1, z_sn zTab g d p l e R s m args below meth c Q 4 P x := by
  unfold k_St_write_1
  refine z_k (S_iret (hf.2.1 rfl) (by decide +kernel)) ?_
  refine z_k (S_aload_n cx (k := 3) (by decide +kernel) rfl) ?_
  refine z_k (S_aload_n cx (k := 0) (by decide +kernel) rfl) ?_
  refine z_k (S_getf cx (T := F_St) (N := 4) (k := 1) rfl in_St (by decide) rfl w_78 (by decide +kernel)) ?_
  refine z_k (S_iload_n cx (k := 2) (by decide +kernel) rfl) ?_
  refine z_k (S_callV cx (T := F_Se) (N := 8) (r := r_Se_writeNext) rfl ⟨w_256, w_5, by decide, by decide +kernel⟩ w_253 w_254 w_255 rfl (by decide +kernel)) ?_
  refine z_k (S_aload_n cx (k := 0) (by decide +kernel) rfl) ?_
  refine z_k (S_getf cx (T := F_St) (N := 4) (k := 1) rfl in_St (by decide) rfl w_78 (by decide +kernel)) ?_
  refine z_k (S_callV cx (T := F_Me) (N := 3) (r := r_Me_finish) rfl ⟨w_326, w_3, by decide, by decide +kernel⟩ w_323 w_324 w_325 rfl (by decide +kernel)) ?_
  refine z_k (S_iret (hf.2.1 rfl) (by decide +kernel)) ?_
  exact z_k0
theorem s_St_write : z_snd zTab r_St_write := ⟨by decide +kernel, w_236, fun g d p l e R s m args below meth c Q P cx hn hf => z_k (s_St_write_0 cx hn hf) (z_k (s_St_write_1 cx hn hf) (z_k0))⟩
set_option maxRecDepth 100000 in
set_option maxHeartbeats 4000000 in
theorem s_St_send_0 (cx : z_cx zTab g d p l e R s m args below meth c prog_1_method_4_code "SealedTalks" 4) (hn : meth.name = "send") (hf : z_fin g p l e R s m args below meth c Q prog_1_method_4_code P (some .int)) : ∀ x ∈ k_St_send_0, z_sn zTab g d p l e R s m args below meth c Q 4 P x := by
  unfold k_St_send_0
  refine z_k (S_aload_n cx (k := 0) (by decide +kernel) rfl) ?_
  refine z_k (S_iload_n cx (k := 1) (by decide +kernel) rfl) ?_
  refine z_k (S_callV cx (T := F_St) (N := 4) (r := r_St_sessionAt) rfl ⟨w_240, w_1, by decide, by decide +kernel⟩ w_237 w_239 wp_2 rfl (by decide +kernel)) ?_
  refine z_k (S_astore_n cx (by decide) (k := 3) (by decide +kernel) rfl) ?_
  refine z_k (S_aload_n cx (k := 3) (by decide +kernel) rfl) ?_
  refine z_k (S_ifnonnull cx (off := 5) (by decide +kernel) (by decide)) ?_
  refine z_k (S_push cx (n := -1) (by decide +kernel) (by decide)) ?_
  refine z_k (S_iret (hf.2.1 rfl) (by decide +kernel)) ?_
  refine z_k (S_aload_n cx (k := 3) (by decide +kernel) rfl) ?_
  refine z_k (S_getfN cx (T := F_Se) (N := 8) (k := 4) rfl in_Se (by decide) rfl w_183 (by decide +kernel)) ?_
  refine z_k (S_if_eq cx (off := 6) (by decide +kernel) (by decide)) ?_
  refine z_k (S_bipush cx (n := -2) (by decide +kernel) (by decide)) ?_
  refine z_k (S_iret (hf.2.1 rfl) (by decide +kernel)) ?_
  refine z_k (S_aload_n cx (k := 3) (by decide +kernel) rfl) ?_
  refine z_k (S_getfN cx (T := F_Se) (N := 8) (k := 2) rfl in_Se (by decide) rfl w_180 (by decide +kernel)) ?_
  refine z_k (S_callV cx (T := F_Ag) (N := 12) (r := r_Ag_isDone) rfl ⟨w_248, w_7, by decide, by decide +kernel⟩ w_331 w_246 w_247 rfl (by decide +kernel)) ?_
  refine z_k (S_if_ne cx (off := 6) (by decide +kernel) (by decide)) ?_
  refine z_k (S_bipush cx (n := -3) (by decide +kernel) (by decide)) ?_
  refine z_k (S_iret (hf.2.1 rfl) (by decide +kernel)) ?_
  refine z_k (S_aload_n cx (k := 0) (by decide +kernel) rfl) ?_
  refine z_k (S_getf cx (T := F_St) (N := 4) (k := 1) rfl in_St (by decide) rfl w_78 (by decide +kernel)) ?_
  refine z_k (S_callV cx (T := F_Me) (N := 3) (r := r_Me_isFull) rfl ⟨w_252, w_3, by decide, by decide +kernel⟩ w_249 w_250 w_251 rfl (by decide +kernel)) ?_
  refine z_k (S_if_eq cx (off := 6) (by decide +kernel) (by decide)) ?_
  refine z_k (S_bipush cx (n := -4) (by decide +kernel) (by decide)) ?_
  exact z_k0
set_option maxRecDepth 100000 in
set_option maxHeartbeats 4000000 in
theorem s_St_send_1 (cx : z_cx zTab g d p l e R s m args below meth c prog_1_method_4_code "SealedTalks" 4) (hn : meth.name = "send") (hf : z_fin g p l e R s m args below meth c Q prog_1_method_4_code P (some .int)) : ∀ x ∈ k_St_send_1, z_sn zTab g d p l e R s m args below meth c Q 4 P x := by
  unfold k_St_send_1
  refine z_k (S_iret (hf.2.1 rfl) (by decide +kernel)) ?_
  refine z_k (S_aload_n cx (k := 3) (by decide +kernel) rfl) ?_
  refine z_k (S_getfN cx (T := F_Se) (N := 8) (k := 1) rfl in_Se (by decide) rfl w_178 (by decide +kernel)) ?_
  refine z_k (S_aload_n cx (k := 0) (by decide +kernel) rfl) ?_
  refine z_k (S_getf cx (T := F_St) (N := 4) (k := 1) rfl in_St (by decide) rfl w_78 (by decide +kernel)) ?_
  refine z_k (S_iload_n cx (k := 2) (by decide +kernel) rfl) ?_
  refine z_k (S_callV cx (T := F_Ch) (N := 6) (r := r_Ch_sendNext) rfl ⟨w_335, w_6, by decide, by decide +kernel⟩ w_332 w_333 w_334 rfl (by decide +kernel)) ?_
  refine z_k (S_aload_n cx (k := 0) (by decide +kernel) rfl) ?_
  refine z_k (S_getf cx (T := F_St) (N := 4) (k := 1) rfl in_St (by decide) rfl w_78 (by decide +kernel)) ?_
  refine z_k (S_callV cx (T := F_Me) (N := 3) (r := r_Me_finish) rfl ⟨w_326, w_3, by decide, by decide +kernel⟩ w_323 w_324 w_325 rfl (by decide +kernel)) ?_
  refine z_k (S_iret (hf.2.1 rfl) (by decide +kernel)) ?_
  exact z_k0
theorem s_St_send : z_snd zTab r_St_send := ⟨by decide +kernel, w_330, fun g d p l e R s m args below meth c Q P cx hn hf => z_k (s_St_send_0 cx hn hf) (z_k (s_St_send_1 cx hn hf) (z_k0))⟩
set_option maxRecDepth 100000 in
set_option maxHeartbeats 4000000 in
theorem s_St_deliver_0 (cx : z_cx zTab g d p l e R s m args below meth c prog_1_method_5_code "SealedTalks" 5) (hn : meth.name = "deliver") (hf : z_fin g p l e R s m args below meth c Q prog_1_method_5_code P (some .int)) : ∀ x ∈ k_St_deliver_0, z_sn zTab g d p l e R s m args below meth c Q 5 P x := by
  unfold k_St_deliver_0
  refine z_k (S_aload_n cx (k := 0) (by decide +kernel) rfl) ?_
  refine z_k (S_iload_n cx (k := 2) (by decide +kernel) rfl) ?_
  refine z_k (S_callV cx (T := F_St) (N := 4) (r := r_St_sessionAt) rfl ⟨w_240, w_1, by decide, by decide +kernel⟩ w_237 w_239 wp_2 rfl (by decide +kernel)) ?_
  refine z_k (S_astore_n cx (by decide) (k := 3) (by decide +kernel) rfl) ?_
  refine z_k (S_aload_n cx (k := 3) (by decide +kernel) rfl) ?_
  refine z_k (S_ifnull cx (off := 14) (by decide +kernel) (by decide)) ?_
  refine z_k (S_aload_n cx (k := 0) (by decide +kernel) rfl) ?_
  refine z_k (S_getf cx (T := F_St) (N := 4) (k := 1) rfl in_St (by decide) rfl w_78 (by decide +kernel)) ?_
  refine z_k (S_iload_n cx (k := 1) (by decide +kernel) rfl) ?_
  refine z_k (S_callV cx (T := F_Me) (N := 3) (r := r_Me_has) rfl ⟨w_346, w_3, by decide, by decide +kernel⟩ w_343 w_344 w_345 rfl (by decide +kernel)) ?_
  refine z_k (S_if_ne cx (off := 5) (by decide +kernel) (by decide)) ?_
  refine z_k (S_push cx (n := -1) (by decide +kernel) (by decide)) ?_
  refine z_k (S_iret (hf.2.1 rfl) (by decide +kernel)) ?_
  refine z_k (S_aload_n cx (k := 3) (by decide +kernel) rfl) ?_
  refine z_k (S_getfN cx (T := F_Se) (N := 8) (k := 4) rfl in_Se (by decide) rfl w_183 (by decide +kernel)) ?_
  refine z_k (S_if_eq cx (off := 6) (by decide +kernel) (by decide)) ?_
  refine z_k (S_bipush cx (n := -2) (by decide +kernel) (by decide)) ?_
  refine z_k (S_iret (hf.2.1 rfl) (by decide +kernel)) ?_
  refine z_k (S_aload_n cx (k := 3) (by decide +kernel) rfl) ?_
  refine z_k (S_getfN cx (T := F_Se) (N := 8) (k := 2) rfl in_Se (by decide) rfl w_180 (by decide +kernel)) ?_
  refine z_k (S_callV cx (T := F_Ag) (N := 12) (r := r_Ag_isDone) rfl ⟨w_248, w_7, by decide, by decide +kernel⟩ w_331 w_246 w_247 rfl (by decide +kernel)) ?_
  refine z_k (S_if_eq cx (off := 18) (by decide +kernel) (by decide)) ?_
  refine z_k (S_aload_n cx (k := 3) (by decide +kernel) rfl) ?_
  refine z_k (S_getfN cx (T := F_Se) (N := 8) (k := 1) rfl in_Se (by decide) rfl w_178 (by decide +kernel)) ?_
  exact z_k0
set_option maxRecDepth 100000 in
set_option maxHeartbeats 4000000 in
theorem s_St_deliver_1 (cx : z_cx zTab g d p l e R s m args below meth c prog_1_method_5_code "SealedTalks" 5) (hn : meth.name = "deliver") (hf : z_fin g p l e R s m args below meth c Q prog_1_method_5_code P (some .int)) : ∀ x ∈ k_St_deliver_1, z_sn zTab g d p l e R s m args below meth c Q 5 P x := by
  unfold k_St_deliver_1
  refine z_k (S_aload_n cx (k := 0) (by decide +kernel) rfl) ?_
  refine z_k (S_getf cx (T := F_St) (N := 4) (k := 1) rfl in_St (by decide) rfl w_78 (by decide +kernel)) ?_
  refine z_k (S_iload_n cx (k := 1) (by decide +kernel) rfl) ?_
  refine z_k (S_callV cx (T := F_Ch) (N := 6) (r := r_Ch_acceptNext) rfl ⟨w_350, w_6, by decide, by decide +kernel⟩ w_347 w_348 w_349 rfl (by decide +kernel)) ?_
  refine z_k (S_goto cx (off := 12) (by decide +kernel) (by decide)) ?_
  refine z_k (S_aload_n cx (k := 3) (by decide +kernel) rfl) ?_
  refine z_k (S_aload_n cx (k := 0) (by decide +kernel) rfl) ?_
  refine z_k (S_getf cx (T := F_St) (N := 4) (k := 1) rfl in_St (by decide) rfl w_78 (by decide +kernel)) ?_
  refine z_k (S_iload_n cx (k := 1) (by decide +kernel) rfl) ?_
  refine z_k (S_callV cx (T := F_Se) (N := 8) (r := r_Se_readNext) rfl ⟨w_389, w_5, by decide, by decide +kernel⟩ w_386 w_387 w_388 rfl (by decide +kernel)) ?_
  refine z_k (S_istore cx (by decide) (by decide +kernel)) ?_
  refine z_k (S_iload cx (by decide +kernel)) ?_
  refine z_k (S_if_ne cx (off := 5) (by decide +kernel) (by decide)) ?_
  refine z_k (S_push cx (n := 0) (by decide +kernel) (by decide)) ?_
  refine z_k (S_iret (hf.2.1 rfl) (by decide +kernel)) ?_
  refine z_k (S_aload_n cx (k := 3) (by decide +kernel) rfl) ?_
  refine z_k (S_aload_n cx (k := 0) (by decide +kernel) rfl) ?_
  refine z_k (S_getf cx (T := F_St) (N := 4) (k := 0) rfl in_St (by decide) rfl w_77 (by decide +kernel)) ?_
  refine z_k (S_iload cx (by decide +kernel)) ?_
  refine z_k (S_callV cx (T := F_Te) (N := 11) (r := r_Te_valueOf) rfl ⟨w_368, w_2, by decide, by decide +kernel⟩ w_429 w_366 w_367 rfl (by decide +kernel)) ?_
  refine z_k (S_callV cx (T := F_Se) (N := 8) (r := r_Se_notePayload) rfl ⟨w_433, w_5, by decide, by decide +kernel⟩ w_430 w_431 w_432 rfl (by decide +kernel)) ?_
  refine z_k (S_push cx (n := 1) (by decide +kernel) (by decide)) ?_
  refine z_k (S_iret (hf.2.1 rfl) (by decide +kernel)) ?_
  exact z_k0
theorem s_St_deliver : z_snd zTab r_St_deliver := ⟨by decide +kernel, w_342, fun g d p l e R s m args below meth c Q P cx hn hf => z_k (s_St_deliver_0 cx hn hf) (z_k (s_St_deliver_1 cx hn hf) (z_k0))⟩
set_option maxRecDepth 100000 in
set_option maxHeartbeats 4000000 in
theorem s_St_splice_0 (cx : z_cx zTab g d p l e R s m args below meth c prog_1_method_6_code "SealedTalks" 6) (hn : meth.name = "splice") (hf : z_fin g p l e R s m args below meth c Q prog_1_method_6_code P (some .int)) : ∀ x ∈ k_St_splice_0, z_sn zTab g d p l e R s m args below meth c Q 6 P x := by
  unfold k_St_splice_0
  refine z_k (S_aload_n cx (k := 0) (by decide +kernel) rfl) ?_
  refine z_k (S_getf cx (T := F_St) (N := 4) (k := 1) rfl in_St (by decide) rfl w_78 (by decide +kernel)) ?_
  refine z_k (S_iload_n cx (k := 3) (by decide +kernel) rfl) ?_
  refine z_k (S_iload cx (by decide +kernel)) ?_
  refine z_k (S_callV cx (T := F_Me) (N := 3) (r := r_Me_partAt) rfl ⟨w_354, w_3, by decide, by decide +kernel⟩ w_438 w_352 w_353 rfl (by decide +kernel)) ?_
  refine z_k (S_istore cx (by decide) (by decide +kernel)) ?_
  refine z_k (S_iload cx (by decide +kernel)) ?_
  refine z_k (S_if_eq cx (off := 15) (by decide +kernel) (by decide)) ?_
  refine z_k (S_aload_n cx (k := 0) (by decide +kernel) rfl) ?_
  refine z_k (S_getf cx (T := F_St) (N := 4) (k := 1) rfl in_St (by decide) rfl w_78 (by decide +kernel)) ?_
  refine z_k (S_iload_n cx (k := 1) (by decide +kernel) rfl) ?_
  refine z_k (S_iload_n cx (k := 2) (by decide +kernel) rfl) ?_
  refine z_k (S_callV cx (T := F_Me) (N := 3) (r := r_Me_partAt) rfl ⟨w_354, w_3, by decide, by decide +kernel⟩ w_438 w_352 w_353 rfl (by decide +kernel)) ?_
  refine z_k (S_if_ne cx (off := 5) (by decide +kernel) (by decide)) ?_
  refine z_k (S_push cx (n := -1) (by decide +kernel) (by decide)) ?_
  refine z_k (S_iret (hf.2.1 rfl) (by decide +kernel)) ?_
  refine z_k (S_aload_n cx (k := 0) (by decide +kernel) rfl) ?_
  refine z_k (S_getf cx (T := F_St) (N := 4) (k := 1) rfl in_St (by decide) rfl w_78 (by decide +kernel)) ?_
  refine z_k (S_callV cx (T := F_Me) (N := 3) (r := r_Me_isFull) rfl ⟨w_252, w_3, by decide, by decide +kernel⟩ w_249 w_250 w_251 rfl (by decide +kernel)) ?_
  refine z_k (S_if_eq cx (off := 8) (by decide +kernel) (by decide)) ?_
  refine z_k (S_bipush cx (n := -4) (by decide +kernel) (by decide)) ?_
  refine z_k (S_goto cx (off := 11) (by decide +kernel) (by decide)) ?_
  refine z_k (S_aload_n cx (k := 0) (by decide +kernel) rfl) ?_
  refine z_k (S_iload_n cx (k := 1) (by decide +kernel) rfl) ?_
  exact z_k0
set_option maxRecDepth 100000 in
set_option maxHeartbeats 4000000 in
theorem s_St_splice_1 (cx : z_cx zTab g d p l e R s m args below meth c prog_1_method_6_code "SealedTalks" 6) (hn : meth.name = "splice") (hf : z_fin g p l e R s m args below meth c Q prog_1_method_6_code P (some .int)) : ∀ x ∈ k_St_splice_1, z_sn zTab g d p l e R s m args below meth c Q 6 P x := by
  unfold k_St_splice_1
  refine z_k (S_iload_n cx (k := 2) (by decide +kernel) rfl) ?_
  refine z_k (S_iload cx (by decide +kernel)) ?_
  refine z_k (S_callV cx (T := F_St) (N := 4) (r := r_St_makeChanged) rfl ⟨w_442, w_1, by decide, by decide +kernel⟩ w_439 w_441 wp_12 rfl (by decide +kernel)) ?_
  refine z_k (S_iret (hf.2.1 rfl) (by decide +kernel)) ?_
  exact z_k0
theorem s_St_splice : z_snd zTab r_St_splice := ⟨by decide +kernel, w_437, fun g d p l e R s m args below meth c Q P cx hn hf => z_k (s_St_splice_0 cx hn hf) (z_k (s_St_splice_1 cx hn hf) (z_k0))⟩
set_option maxRecDepth 100000 in
set_option maxHeartbeats 4000000 in
theorem s_St_replace_0 (cx : z_cx zTab g d p l e R s m args below meth c prog_1_method_7_code "SealedTalks" 4) (hn : meth.name = "replace") (hf : z_fin g p l e R s m args below meth c Q prog_1_method_7_code P (some .int)) : ∀ x ∈ k_St_replace_0, z_sn zTab g d p l e R s m args below meth c Q 4 P x := by
  unfold k_St_replace_0
  refine z_k (S_aload_n cx (k := 0) (by decide +kernel) rfl) ?_
  refine z_k (S_getf cx (T := F_St) (N := 4) (k := 1) rfl in_St (by decide) rfl w_78 (by decide +kernel)) ?_
  refine z_k (S_iload_n cx (k := 1) (by decide +kernel) rfl) ?_
  refine z_k (S_iload_n cx (k := 2) (by decide +kernel) rfl) ?_
  refine z_k (S_callV cx (T := F_Me) (N := 3) (r := r_Me_partAt) rfl ⟨w_354, w_3, by decide, by decide +kernel⟩ w_438 w_352 w_353 rfl (by decide +kernel)) ?_
  refine z_k (S_if_ne cx (off := 5) (by decide +kernel) (by decide)) ?_
  refine z_k (S_push cx (n := -1) (by decide +kernel) (by decide)) ?_
  refine z_k (S_iret (hf.2.1 rfl) (by decide +kernel)) ?_
  refine z_k (S_aload_n cx (k := 0) (by decide +kernel) rfl) ?_
  refine z_k (S_getf cx (T := F_St) (N := 4) (k := 1) rfl in_St (by decide) rfl w_78 (by decide +kernel)) ?_
  refine z_k (S_callV cx (T := F_Me) (N := 3) (r := r_Me_isFull) rfl ⟨w_252, w_3, by decide, by decide +kernel⟩ w_249 w_250 w_251 rfl (by decide +kernel)) ?_
  refine z_k (S_if_eq cx (off := 8) (by decide +kernel) (by decide)) ?_
  refine z_k (S_bipush cx (n := -4) (by decide +kernel) (by decide)) ?_
  refine z_k (S_goto cx (off := 17) (by decide +kernel) (by decide)) ?_
  refine z_k (S_aload_n cx (k := 0) (by decide +kernel) rfl) ?_
  refine z_k (S_iload_n cx (k := 1) (by decide +kernel) rfl) ?_
  refine z_k (S_iload_n cx (k := 2) (by decide +kernel) rfl) ?_
  refine z_k (S_aload_n cx (k := 0) (by decide +kernel) rfl) ?_
  refine z_k (S_getf cx (T := F_St) (N := 4) (k := 0) rfl in_St (by decide) rfl w_77 (by decide +kernel)) ?_
  refine z_k (S_iload_n cx (k := 3) (by decide +kernel) rfl) ?_
  refine z_k (S_callV cx (T := F_Te) (N := 11) (r := r_Te_num) rfl ⟨w_213, w_2, by decide, by decide +kernel⟩ w_449 w_211 w_212 rfl (by decide +kernel)) ?_
  refine z_k (S_callV cx (T := F_St) (N := 4) (r := r_St_makeChanged) rfl ⟨w_442, w_1, by decide, by decide +kernel⟩ w_439 w_441 wp_12 rfl (by decide +kernel)) ?_
  refine z_k (S_iret (hf.2.1 rfl) (by decide +kernel)) ?_
  exact z_k0
theorem s_St_replace : z_snd zTab r_St_replace := ⟨by decide +kernel, w_448, fun g d p l e R s m args below meth c Q P cx hn hf => z_k (s_St_replace_0 cx hn hf) (z_k0)⟩
set_option maxRecDepth 100000 in
set_option maxHeartbeats 4000000 in
theorem s_St_give_0 (cx : z_cx zTab g d p l e R s m args below meth c prog_1_method_8_code "SealedTalks" 2) (hn : meth.name = "give") (hf : z_fin g p l e R s m args below meth c Q prog_1_method_8_code P (some .boolean)) : ∀ x ∈ k_St_give_0, z_sn zTab g d p l e R s m args below meth c Q 2 P x := by
  unfold k_St_give_0
  refine z_k (S_aload_n cx (k := 0) (by decide +kernel) rfl) ?_
  refine z_k (S_getf cx (T := F_St) (N := 4) (k := 0) rfl in_St (by decide) rfl w_77 (by decide +kernel)) ?_
  refine z_k (S_iload_n cx (k := 1) (by decide +kernel) rfl) ?_
  refine z_k (S_callV cx (T := F_Te) (N := 11) (r := r_Te_giveAway) rfl ⟨w_457, w_2, by decide, by decide +kernel⟩ w_454 w_455 w_456 rfl (by decide +kernel)) ?_
  refine z_k (S_zret (hf.2.2.1 rfl) (by decide +kernel)) ?_
  exact z_k0
theorem s_St_give : z_snd zTab r_St_give := ⟨by decide +kernel, w_453, fun g d p l e R s m args below meth c Q P cx hn hf => z_k (s_St_give_0 cx hn hf) (z_k0)⟩
set_option maxRecDepth 100000 in
set_option maxHeartbeats 4000000 in
theorem s_St_tick_0 (cx : z_cx zTab g d p l e R s m args below meth c prog_1_method_9_code "SealedTalks" 4) (hn : meth.name = "tick") (hf : z_fin g p l e R s m args below meth c Q prog_1_method_9_code P (some .int)) : ∀ x ∈ k_St_tick_0, z_sn zTab g d p l e R s m args below meth c Q 4 P x := by
  unfold k_St_tick_0
  refine z_k (S_push cx (n := 0) (by decide +kernel) (by decide)) ?_
  refine z_k (S_istore_n cx (by decide) (k := 1) (by decide +kernel) rfl) ?_
  refine z_k (S_push cx (n := 0) (by decide +kernel) (by decide)) ?_
  refine z_k (S_istore_n cx (by decide) (k := 2) (by decide +kernel) rfl) ?_
  refine z_k (S_iload_n cx (k := 2) (by decide +kernel) rfl) ?_
  refine z_k (S_aload_n cx (k := 0) (by decide +kernel) rfl) ?_
  refine z_k (S_getf cx (T := F_St) (N := 4) (k := 3) rfl in_St (by decide) rfl w_80 (by decide +kernel)) ?_
  refine z_k (S_icmp_ge cx (off := 29) (by decide +kernel) (by decide)) ?_
  refine z_k (S_aload_n cx (k := 0) (by decide +kernel) rfl) ?_
  refine z_k (S_iload_n cx (k := 2) (by decide +kernel) rfl) ?_
  refine z_k (S_callV cx (T := F_St) (N := 4) (r := r_St_sessionAt) rfl ⟨w_240, w_1, by decide, by decide +kernel⟩ w_237 w_239 wp_2 rfl (by decide +kernel)) ?_
  refine z_k (S_astore_n cx (by decide) (k := 3) (by decide +kernel) rfl) ?_
  refine z_k (S_aload_n cx (k := 3) (by decide +kernel) rfl) ?_
  refine z_k (S_ifnull cx (off := 13) (by decide +kernel) (by decide)) ?_
  refine z_k (S_aload_n cx (k := 3) (by decide +kernel) rfl) ?_
  refine z_k (S_callV cx (T := F_Se) (N := 8) (r := r_Se_passTick) rfl ⟨w_465, w_5, by decide, by decide +kernel⟩ w_462 w_463 w_464 rfl (by decide +kernel)) ?_
  refine z_k (S_if_eq cx (off := 6) (by decide +kernel) (by decide)) ?_
  refine z_k (S_iinc cx (n := 1) (by decide) (by decide +kernel) (by decide)) ?_
  refine z_k (S_iinc cx (n := 1) (by decide) (by decide +kernel) (by decide)) ?_
  refine z_k (S_goto cx (off := -31) (by decide +kernel) (by decide)) ?_
  refine z_k (S_iload_n cx (k := 1) (by decide +kernel) rfl) ?_
  refine z_k (S_iret (hf.2.1 rfl) (by decide +kernel)) ?_
  exact z_k0
theorem s_St_tick : z_snd zTab r_St_tick := ⟨by decide +kernel, w_461, fun g d p l e R s m args below meth c Q P cx hn hf => z_k (s_St_tick_0 cx hn hf) (z_k0)⟩
set_option maxRecDepth 100000 in
set_option maxHeartbeats 4000000 in
theorem s_St_state_0 (cx : z_cx zTab g d p l e R s m args below meth c prog_1_method_10_code "SealedTalks" 3) (hn : meth.name = "state") (hf : z_fin g p l e R s m args below meth c Q prog_1_method_10_code P (some .int)) : ∀ x ∈ k_St_state_0, z_sn zTab g d p l e R s m args below meth c Q 3 P x := by
  unfold k_St_state_0
  refine z_k (S_aload_n cx (k := 0) (by decide +kernel) rfl) ?_
  refine z_k (S_iload_n cx (k := 1) (by decide +kernel) rfl) ?_
  refine z_k (S_callV cx (T := F_St) (N := 4) (r := r_St_sessionAt) rfl ⟨w_240, w_1, by decide, by decide +kernel⟩ w_237 w_239 wp_2 rfl (by decide +kernel)) ?_
  refine z_k (S_astore_n cx (by decide) (k := 2) (by decide +kernel) rfl) ?_
  refine z_k (S_aload_n cx (k := 2) (by decide +kernel) rfl) ?_
  refine z_k (S_ifnonnull cx (off := 5) (by decide +kernel) (by decide)) ?_
  refine z_k (S_push cx (n := -1) (by decide +kernel) (by decide)) ?_
  refine z_k (S_iret (hf.2.1 rfl) (by decide +kernel)) ?_
  refine z_k (S_aload_n cx (k := 2) (by decide +kernel) rfl) ?_
  refine z_k (S_getfN cx (T := F_Se) (N := 8) (k := 4) rfl in_Se (by decide) rfl w_183 (by decide +kernel)) ?_
  refine z_k (S_if_eq cx (off := 5) (by decide +kernel) (by decide)) ?_
  refine z_k (S_push cx (n := 2) (by decide +kernel) (by decide)) ?_
  refine z_k (S_iret (hf.2.1 rfl) (by decide +kernel)) ?_
  refine z_k (S_aload_n cx (k := 2) (by decide +kernel) rfl) ?_
  refine z_k (S_getfN cx (T := F_Se) (N := 8) (k := 2) rfl in_Se (by decide) rfl w_180 (by decide +kernel)) ?_
  refine z_k (S_callV cx (T := F_Ag) (N := 12) (r := r_Ag_isDone) rfl ⟨w_248, w_7, by decide, by decide +kernel⟩ w_331 w_246 w_247 rfl (by decide +kernel)) ?_
  refine z_k (S_if_eq cx (off := 7) (by decide +kernel) (by decide)) ?_
  refine z_k (S_push cx (n := 1) (by decide +kernel) (by decide)) ?_
  refine z_k (S_goto cx (off := 4) (by decide +kernel) (by decide)) ?_
  refine z_k (S_push cx (n := 0) (by decide +kernel) (by decide)) ?_
  refine z_k (S_iret (hf.2.1 rfl) (by decide +kernel)) ?_
  exact z_k0
theorem s_St_state : z_snd zTab r_St_state := ⟨by decide +kernel, w_469, fun g d p l e R s m args below meth c Q P cx hn hf => z_k (s_St_state_0 cx hn hf) (z_k0)⟩
set_option maxRecDepth 100000 in
set_option maxHeartbeats 4000000 in
theorem s_St_steps_0 (cx : z_cx zTab g d p l e R s m args below meth c prog_1_method_11_code "SealedTalks" 3) (hn : meth.name = "steps") (hf : z_fin g p l e R s m args below meth c Q prog_1_method_11_code P (some .int)) : ∀ x ∈ k_St_steps_0, z_sn zTab g d p l e R s m args below meth c Q 3 P x := by
  unfold k_St_steps_0
  refine z_k (S_aload_n cx (k := 0) (by decide +kernel) rfl) ?_
  refine z_k (S_iload_n cx (k := 1) (by decide +kernel) rfl) ?_
  refine z_k (S_callV cx (T := F_St) (N := 4) (r := r_St_sessionAt) rfl ⟨w_240, w_1, by decide, by decide +kernel⟩ w_237 w_239 wp_2 rfl (by decide +kernel)) ?_
  refine z_k (S_astore_n cx (by decide) (k := 2) (by decide +kernel) rfl) ?_
  refine z_k (S_aload_n cx (k := 2) (by decide +kernel) rfl) ?_
  refine z_k (S_ifnonnull cx (off := 7) (by decide +kernel) (by decide)) ?_
  refine z_k (S_push cx (n := -1) (by decide +kernel) (by decide)) ?_
  refine z_k (S_goto cx (off := 10) (by decide +kernel) (by decide)) ?_
  refine z_k (S_aload_n cx (k := 2) (by decide +kernel) rfl) ?_
  refine z_k (S_getfN cx (T := F_Se) (N := 8) (k := 2) rfl in_Se (by decide) rfl w_180 (by decide +kernel)) ?_
  refine z_k (S_getfN cx (T := F_Ag) (N := 12) (k := 11) rfl in_Ag (by decide) rfl w_150 (by decide +kernel)) ?_
  refine z_k (S_iret (hf.2.1 rfl) (by decide +kernel)) ?_
  exact z_k0
theorem s_St_steps : z_snd zTab r_St_steps := ⟨by decide +kernel, w_473, fun g d p l e R s m args below meth c Q P cx hn hf => z_k (s_St_steps_0 cx hn hf) (z_k0)⟩
set_option maxRecDepth 100000 in
set_option maxHeartbeats 4000000 in
theorem s_St_peer_0 (cx : z_cx zTab g d p l e R s m args below meth c prog_1_method_12_code "SealedTalks" 3) (hn : meth.name = "peer") (hf : z_fin g p l e R s m args below meth c Q prog_1_method_12_code P (some .int)) : ∀ x ∈ k_St_peer_0, z_sn zTab g d p l e R s m args below meth c Q 3 P x := by
  unfold k_St_peer_0
  refine z_k (S_aload_n cx (k := 0) (by decide +kernel) rfl) ?_
  refine z_k (S_iload_n cx (k := 1) (by decide +kernel) rfl) ?_
  refine z_k (S_callV cx (T := F_St) (N := 4) (r := r_St_sessionAt) rfl ⟨w_240, w_1, by decide, by decide +kernel⟩ w_237 w_239 wp_2 rfl (by decide +kernel)) ?_
  refine z_k (S_astore_n cx (by decide) (k := 2) (by decide +kernel) rfl) ?_
  refine z_k (S_aload_n cx (k := 2) (by decide +kernel) rfl) ?_
  refine z_k (S_ifnonnull cx (off := 7) (by decide +kernel) (by decide)) ?_
  refine z_k (S_push cx (n := -1) (by decide +kernel) (by decide)) ?_
  refine z_k (S_goto cx (off := 10) (by decide +kernel) (by decide)) ?_
  refine z_k (S_aload_n cx (k := 2) (by decide +kernel) rfl) ?_
  refine z_k (S_getfN cx (T := F_Se) (N := 8) (k := 2) rfl in_Se (by decide) rfl w_180 (by decide +kernel)) ?_
  refine z_k (S_getfN cx (T := F_Ag) (N := 12) (k := 5) rfl in_Ag (by decide) rfl w_142 (by decide +kernel)) ?_
  refine z_k (S_iret (hf.2.1 rfl) (by decide +kernel)) ?_
  exact z_k0
theorem s_St_peer : z_snd zTab r_St_peer := ⟨by decide +kernel, w_477, fun g d p l e R s m args below meth c Q P cx hn hf => z_k (s_St_peer_0 cx hn hf) (z_k0)⟩
set_option maxRecDepth 100000 in
set_option maxHeartbeats 4000000 in
theorem s_St_payload_0 (cx : z_cx zTab g d p l e R s m args below meth c prog_1_method_13_code "SealedTalks" 3) (hn : meth.name = "payload") (hf : z_fin g p l e R s m args below meth c Q prog_1_method_13_code P (some .int)) : ∀ x ∈ k_St_payload_0, z_sn zTab g d p l e R s m args below meth c Q 3 P x := by
  unfold k_St_payload_0
  refine z_k (S_aload_n cx (k := 0) (by decide +kernel) rfl) ?_
  refine z_k (S_iload_n cx (k := 1) (by decide +kernel) rfl) ?_
  refine z_k (S_callV cx (T := F_St) (N := 4) (r := r_St_sessionAt) rfl ⟨w_240, w_1, by decide, by decide +kernel⟩ w_237 w_239 wp_2 rfl (by decide +kernel)) ?_
  refine z_k (S_astore_n cx (by decide) (k := 2) (by decide +kernel) rfl) ?_
  refine z_k (S_aload_n cx (k := 2) (by decide +kernel) rfl) ?_
  refine z_k (S_ifnonnull cx (off := 7) (by decide +kernel) (by decide)) ?_
  refine z_k (S_push cx (n := 0) (by decide +kernel) (by decide)) ?_
  refine z_k (S_goto cx (off := 7) (by decide +kernel) (by decide)) ?_
  refine z_k (S_aload_n cx (k := 2) (by decide +kernel) rfl) ?_
  refine z_k (S_getfN cx (T := F_Se) (N := 8) (k := 6) rfl in_Se (by decide) rfl w_186 (by decide +kernel)) ?_
  refine z_k (S_iret (hf.2.1 rfl) (by decide +kernel)) ?_
  exact z_k0
theorem s_St_payload : z_snd zTab r_St_payload := ⟨by decide +kernel, w_481, fun g d p l e R s m args below meth c Q P cx hn hf => z_k (s_St_payload_0 cx hn hf) (z_k0)⟩
set_option maxRecDepth 100000 in
set_option maxHeartbeats 4000000 in
theorem s_St_accepted_0 (cx : z_cx zTab g d p l e R s m args below meth c prog_1_method_14_code "SealedTalks" 3) (hn : meth.name = "accepted") (hf : z_fin g p l e R s m args below meth c Q prog_1_method_14_code P (some .int)) : ∀ x ∈ k_St_accepted_0, z_sn zTab g d p l e R s m args below meth c Q 3 P x := by
  unfold k_St_accepted_0
  refine z_k (S_aload_n cx (k := 0) (by decide +kernel) rfl) ?_
  refine z_k (S_iload_n cx (k := 1) (by decide +kernel) rfl) ?_
  refine z_k (S_callV cx (T := F_St) (N := 4) (r := r_St_sessionAt) rfl ⟨w_240, w_1, by decide, by decide +kernel⟩ w_237 w_239 wp_2 rfl (by decide +kernel)) ?_
  refine z_k (S_astore_n cx (by decide) (k := 2) (by decide +kernel) rfl) ?_
  refine z_k (S_aload_n cx (k := 2) (by decide +kernel) rfl) ?_
  refine z_k (S_ifnonnull cx (off := 7) (by decide +kernel) (by decide)) ?_
  refine z_k (S_push cx (n := -1) (by decide +kernel) (by decide)) ?_
  refine z_k (S_goto cx (off := 7) (by decide +kernel) (by decide)) ?_
  refine z_k (S_aload_n cx (k := 2) (by decide +kernel) rfl) ?_
  refine z_k (S_getfN cx (T := F_Se) (N := 8) (k := 7) rfl in_Se (by decide) rfl w_188 (by decide +kernel)) ?_
  refine z_k (S_iret (hf.2.1 rfl) (by decide +kernel)) ?_
  exact z_k0
theorem s_St_accepted : z_snd zTab r_St_accepted := ⟨by decide +kernel, w_485, fun g d p l e R s m args below meth c Q P cx hn hf => z_k (s_St_accepted_0 cx hn hf) (z_k0)⟩
set_option maxRecDepth 100000 in
set_option maxHeartbeats 4000000 in
theorem s_St_match_0 (cx : z_cx zTab g d p l e R s m args below meth c prog_1_method_15_code "SealedTalks" 5) (hn : meth.name = "match") (hf : z_fin g p l e R s m args below meth c Q prog_1_method_15_code P (some .boolean)) : ∀ x ∈ k_St_match_0, z_sn zTab g d p l e R s m args below meth c Q 5 P x := by
  unfold k_St_match_0
  refine z_k (S_aload_n cx (k := 0) (by decide +kernel) rfl) ?_
  refine z_k (S_iload_n cx (k := 1) (by decide +kernel) rfl) ?_
  refine z_k (S_callV cx (T := F_St) (N := 4) (r := r_St_sessionAt) rfl ⟨w_240, w_1, by decide, by decide +kernel⟩ w_237 w_239 wp_2 rfl (by decide +kernel)) ?_
  refine z_k (S_astore_n cx (by decide) (k := 3) (by decide +kernel) rfl) ?_
  refine z_k (S_aload_n cx (k := 0) (by decide +kernel) rfl) ?_
  refine z_k (S_iload_n cx (k := 2) (by decide +kernel) rfl) ?_
  refine z_k (S_callV cx (T := F_St) (N := 4) (r := r_St_sessionAt) rfl ⟨w_240, w_1, by decide, by decide +kernel⟩ w_237 w_239 wp_2 rfl (by decide +kernel)) ?_
  refine z_k (S_astore cx (by decide) (by decide +kernel)) ?_
  refine z_k (S_aload_n cx (k := 3) (by decide +kernel) rfl) ?_
  refine z_k (S_ifnull cx (off := 29) (by decide +kernel) (by decide)) ?_
  refine z_k (S_aload cx (by decide +kernel)) ?_
  refine z_k (S_ifnull cx (off := 24) (by decide +kernel) (by decide)) ?_
  refine z_k (S_aload_n cx (k := 3) (by decide +kernel) rfl) ?_
  refine z_k (S_getfN cx (T := F_Se) (N := 8) (k := 2) rfl in_Se (by decide) rfl w_180 (by decide +kernel)) ?_
  refine z_k (S_callV cx (T := F_Ag) (N := 12) (r := r_Ag_isDone) rfl ⟨w_248, w_7, by decide, by decide +kernel⟩ w_331 w_246 w_247 rfl (by decide +kernel)) ?_
  refine z_k (S_if_eq cx (off := 14) (by decide +kernel) (by decide)) ?_
  refine z_k (S_aload cx (by decide +kernel)) ?_
  refine z_k (S_getfN cx (T := F_Se) (N := 8) (k := 2) rfl in_Se (by decide) rfl w_180 (by decide +kernel)) ?_
  refine z_k (S_callV cx (T := F_Ag) (N := 12) (r := r_Ag_isDone) rfl ⟨w_248, w_7, by decide, by decide +kernel⟩ w_331 w_246 w_247 rfl (by decide +kernel)) ?_
  refine z_k (S_if_ne cx (off := 5) (by decide +kernel) (by decide)) ?_
  refine z_k (S_push cx (n := 0) (by decide +kernel) (by decide)) ?_
  refine z_k (S_zret (hf.2.2.1 rfl) (by decide +kernel)) ?_
  refine z_k (S_aload_n cx (k := 3) (by decide +kernel) rfl) ?_
  refine z_k (S_getfN cx (T := F_Se) (N := 8) (k := 1) rfl in_Se (by decide) rfl w_178 (by decide +kernel)) ?_
  exact z_k0
set_option maxRecDepth 100000 in
set_option maxHeartbeats 4000000 in
theorem s_St_match_1 (cx : z_cx zTab g d p l e R s m args below meth c prog_1_method_15_code "SealedTalks" 5) (hn : meth.name = "match") (hf : z_fin g p l e R s m args below meth c Q prog_1_method_15_code P (some .boolean)) : ∀ x ∈ k_St_match_1, z_sn zTab g d p l e R s m args below meth c Q 5 P x := by
  unfold k_St_match_1
  refine z_k (S_getfN cx (T := F_Ch) (N := 6) (k := 2) rfl in_Ch (by decide) rfl w_111 (by decide +kernel)) ?_
  refine z_k (S_aload cx (by decide +kernel)) ?_
  refine z_k (S_getfN cx (T := F_Se) (N := 8) (k := 1) rfl in_Se (by decide) rfl w_178 (by decide +kernel)) ?_
  refine z_k (S_getfN cx (T := F_Ch) (N := 6) (k := 3) rfl in_Ch (by decide) rfl w_113 (by decide +kernel)) ?_
  refine z_k (S_icmp_ne cx (off := 25) (by decide +kernel) (by decide)) ?_
  refine z_k (S_aload cx (by decide +kernel)) ?_
  refine z_k (S_getfN cx (T := F_Se) (N := 8) (k := 1) rfl in_Se (by decide) rfl w_178 (by decide +kernel)) ?_
  refine z_k (S_getfN cx (T := F_Ch) (N := 6) (k := 2) rfl in_Ch (by decide) rfl w_111 (by decide +kernel)) ?_
  refine z_k (S_aload_n cx (k := 3) (by decide +kernel) rfl) ?_
  refine z_k (S_getfN cx (T := F_Se) (N := 8) (k := 1) rfl in_Se (by decide) rfl w_178 (by decide +kernel)) ?_
  refine z_k (S_getfN cx (T := F_Ch) (N := 6) (k := 3) rfl in_Ch (by decide) rfl w_113 (by decide +kernel)) ?_
  refine z_k (S_icmp_ne cx (off := 7) (by decide +kernel) (by decide)) ?_
  refine z_k (S_push cx (n := 1) (by decide +kernel) (by decide)) ?_
  refine z_k (S_goto cx (off := 4) (by decide +kernel) (by decide)) ?_
  refine z_k (S_push cx (n := 0) (by decide +kernel) (by decide)) ?_
  refine z_k (S_zret (hf.2.2.1 rfl) (by decide +kernel)) ?_
  exact z_k0
theorem s_St_match : z_snd zTab r_St_match := ⟨by decide +kernel, w_489, fun g d p l e R s m args below meth c Q P cx hn hf => z_k (s_St_match_0 cx hn hf) (z_k (s_St_match_1 cx hn hf) (z_k0))⟩
set_option maxRecDepth 100000 in
set_option maxHeartbeats 4000000 in
theorem s_St_open_0 (cx : z_cx zTab g d p l e R s m args below meth c prog_1_method_16_code "SealedTalks" 3) (hn : meth.name = "open") (hf : z_fin g p l e R s m args below meth c Q prog_1_method_16_code P (some .boolean)) : ∀ x ∈ k_St_open_0, z_sn zTab g d p l e R s m args below meth c Q 3 P x := by
  unfold k_St_open_0
  refine z_k (S_aload_n cx (k := 0) (by decide +kernel) rfl) ?_
  refine z_k (S_iload_n cx (k := 1) (by decide +kernel) rfl) ?_
  refine z_k (S_callV cx (T := F_St) (N := 4) (r := r_St_sessionAt) rfl ⟨w_240, w_1, by decide, by decide +kernel⟩ w_237 w_239 wp_2 rfl (by decide +kernel)) ?_
  refine z_k (S_astore_n cx (by decide) (k := 2) (by decide +kernel) rfl) ?_
  refine z_k (S_aload_n cx (k := 2) (by decide +kernel) rfl) ?_
  refine z_k (S_ifnull cx (off := 13) (by decide +kernel) (by decide)) ?_
  refine z_k (S_aload_n cx (k := 2) (by decide +kernel) rfl) ?_
  refine z_k (S_getfN cx (T := F_Se) (N := 8) (k := 2) rfl in_Se (by decide) rfl w_180 (by decide +kernel)) ?_
  refine z_k (S_callV cx (T := F_Ag) (N := 12) (r := r_Ag_isDone) rfl ⟨w_248, w_7, by decide, by decide +kernel⟩ w_331 w_246 w_247 rfl (by decide +kernel)) ?_
  refine z_k (S_if_ne cx (off := 5) (by decide +kernel) (by decide)) ?_
  refine z_k (S_push cx (n := 0) (by decide +kernel) (by decide)) ?_
  refine z_k (S_zret (hf.2.2.1 rfl) (by decide +kernel)) ?_
  refine z_k (S_aload_n cx (k := 0) (by decide +kernel) rfl) ?_
  refine z_k (S_getf cx (T := F_St) (N := 4) (k := 0) rfl in_St (by decide) rfl w_77 (by decide +kernel)) ?_
  refine z_k (S_aload_n cx (k := 2) (by decide +kernel) rfl) ?_
  refine z_k (S_getfN cx (T := F_Se) (N := 8) (k := 1) rfl in_Se (by decide) rfl w_178 (by decide +kernel)) ?_
  refine z_k (S_getfN cx (T := F_Ch) (N := 6) (k := 2) rfl in_Ch (by decide) rfl w_111 (by decide +kernel)) ?_
  refine z_k (S_callV cx (T := F_Te) (N := 11) (r := r_Te_canWorkOut) rfl ⟨w_497, w_2, by decide, by decide +kernel⟩ w_494 w_495 w_496 rfl (by decide +kernel)) ?_
  refine z_k (S_if_eq cx (off := 24) (by decide +kernel) (by decide)) ?_
  refine z_k (S_aload_n cx (k := 0) (by decide +kernel) rfl) ?_
  refine z_k (S_getf cx (T := F_St) (N := 4) (k := 0) rfl in_St (by decide) rfl w_77 (by decide +kernel)) ?_
  refine z_k (S_aload_n cx (k := 2) (by decide +kernel) rfl) ?_
  refine z_k (S_getfN cx (T := F_Se) (N := 8) (k := 1) rfl in_Se (by decide) rfl w_178 (by decide +kernel)) ?_
  refine z_k (S_getfN cx (T := F_Ch) (N := 6) (k := 3) rfl in_Ch (by decide) rfl w_113 (by decide +kernel)) ?_
  exact z_k0
set_option maxRecDepth 100000 in
set_option maxHeartbeats 4000000 in
theorem s_St_open_1 (cx : z_cx zTab g d p l e R s m args below meth c prog_1_method_16_code "SealedTalks" 3) (hn : meth.name = "open") (hf : z_fin g p l e R s m args below meth c Q prog_1_method_16_code P (some .boolean)) : ∀ x ∈ k_St_open_1, z_sn zTab g d p l e R s m args below meth c Q 3 P x := by
  unfold k_St_open_1
  refine z_k (S_callV cx (T := F_Te) (N := 11) (r := r_Te_canWorkOut) rfl ⟨w_497, w_2, by decide, by decide +kernel⟩ w_494 w_495 w_496 rfl (by decide +kernel)) ?_
  refine z_k (S_if_eq cx (off := 7) (by decide +kernel) (by decide)) ?_
  refine z_k (S_push cx (n := 1) (by decide +kernel) (by decide)) ?_
  refine z_k (S_goto cx (off := 4) (by decide +kernel) (by decide)) ?_
  refine z_k (S_push cx (n := 0) (by decide +kernel) (by decide)) ?_
  refine z_k (S_zret (hf.2.2.1 rfl) (by decide +kernel)) ?_
  exact z_k0
theorem s_St_open : z_snd zTab r_St_open := ⟨by decide +kernel, w_493, fun g d p l e R s m args below meth c Q P cx hn hf => z_k (s_St_open_0 cx hn hf) (z_k (s_St_open_1 cx hn hf) (z_k0))⟩
set_option maxRecDepth 100000 in
set_option maxHeartbeats 4000000 in
theorem s_St_parts_0 (cx : z_cx zTab g d p l e R s m args below meth c prog_1_method_17_code "SealedTalks" 2) (hn : meth.name = "parts") (hf : z_fin g p l e R s m args below meth c Q prog_1_method_17_code P (some .int)) : ∀ x ∈ k_St_parts_0, z_sn zTab g d p l e R s m args below meth c Q 2 P x := by
  unfold k_St_parts_0
  refine z_k (S_aload_n cx (k := 0) (by decide +kernel) rfl) ?_
  refine z_k (S_getf cx (T := F_St) (N := 4) (k := 1) rfl in_St (by decide) rfl w_78 (by decide +kernel)) ?_
  refine z_k (S_iload_n cx (k := 1) (by decide +kernel) rfl) ?_
  refine z_k (S_callV cx (T := F_Me) (N := 3) (r := r_Me_has) rfl ⟨w_346, w_3, by decide, by decide +kernel⟩ w_343 w_344 w_345 rfl (by decide +kernel)) ?_
  refine z_k (S_if_eq cx (off := 14) (by decide +kernel) (by decide)) ?_
  refine z_k (S_aload_n cx (k := 0) (by decide +kernel) rfl) ?_
  refine z_k (S_getf cx (T := F_St) (N := 4) (k := 1) rfl in_St (by decide) rfl w_78 (by decide +kernel)) ?_
  refine z_k (S_iload_n cx (k := 1) (by decide +kernel) rfl) ?_
  refine z_k (S_callV cx (T := F_Me) (N := 3) (r := r_Me_sizeOf) rfl ⟨w_358, w_3, by decide, by decide +kernel⟩ w_443 w_356 w_357 rfl (by decide +kernel)) ?_
  refine z_k (S_goto cx (off := 4) (by decide +kernel) (by decide)) ?_
  refine z_k (S_push cx (n := -1) (by decide +kernel) (by decide)) ?_
  refine z_k (S_iret (hf.2.1 rfl) (by decide +kernel)) ?_
  exact z_k0
theorem s_St_parts : z_snd zTab r_St_parts := ⟨by decide +kernel, w_501, fun g d p l e R s m args below meth c Q P cx hn hf => z_k (s_St_parts_0 cx hn hf) (z_k0)⟩
set_option maxRecDepth 100000 in
set_option maxHeartbeats 4000000 in
theorem s_St_sees_0 (cx : z_cx zTab g d p l e R s m args below meth c prog_1_method_18_code "SealedTalks" 4) (hn : meth.name = "sees") (hf : z_fin g p l e R s m args below meth c Q prog_1_method_18_code P (some .int)) : ∀ x ∈ k_St_sees_0, z_sn zTab g d p l e R s m args below meth c Q 4 P x := by
  unfold k_St_sees_0
  refine z_k (S_aload_n cx (k := 0) (by decide +kernel) rfl) ?_
  refine z_k (S_getf cx (T := F_St) (N := 4) (k := 1) rfl in_St (by decide) rfl w_78 (by decide +kernel)) ?_
  refine z_k (S_iload_n cx (k := 1) (by decide +kernel) rfl) ?_
  refine z_k (S_iload_n cx (k := 2) (by decide +kernel) rfl) ?_
  refine z_k (S_callV cx (T := F_Me) (N := 3) (r := r_Me_partAt) rfl ⟨w_354, w_3, by decide, by decide +kernel⟩ w_438 w_352 w_353 rfl (by decide +kernel)) ?_
  refine z_k (S_istore_n cx (by decide) (k := 3) (by decide +kernel) rfl) ?_
  refine z_k (S_aload_n cx (k := 0) (by decide +kernel) rfl) ?_
  refine z_k (S_getf cx (T := F_St) (N := 4) (k := 0) rfl in_St (by decide) rfl w_77 (by decide +kernel)) ?_
  refine z_k (S_iload_n cx (k := 3) (by decide +kernel) rfl) ?_
  refine z_k (S_callV cx (T := F_Te) (N := 11) (r := r_Te_isNum) rfl ⟨w_364, w_2, by decide, by decide +kernel⟩ w_506 w_362 w_363 rfl (by decide +kernel)) ?_
  refine z_k (S_if_eq cx (off := 5) (by decide +kernel) (by decide)) ?_
  refine z_k (S_push cx (n := 1) (by decide +kernel) (by decide)) ?_
  refine z_k (S_iret (hf.2.1 rfl) (by decide +kernel)) ?_
  refine z_k (S_aload_n cx (k := 0) (by decide +kernel) rfl) ?_
  refine z_k (S_getf cx (T := F_St) (N := 4) (k := 0) rfl in_St (by decide) rfl w_77 (by decide +kernel)) ?_
  refine z_k (S_iload_n cx (k := 3) (by decide +kernel) rfl) ?_
  refine z_k (S_callV cx (T := F_Te) (N := 11) (r := r_Te_isPub) rfl ⟨w_422, w_2, by decide, by decide +kernel⟩ w_507 w_420 w_421 rfl (by decide +kernel)) ?_
  refine z_k (S_if_eq cx (off := 5) (by decide +kernel) (by decide)) ?_
  refine z_k (S_push cx (n := 2) (by decide +kernel) (by decide)) ?_
  refine z_k (S_iret (hf.2.1 rfl) (by decide +kernel)) ?_
  refine z_k (S_aload_n cx (k := 0) (by decide +kernel) rfl) ?_
  refine z_k (S_getf cx (T := F_St) (N := 4) (k := 0) rfl in_St (by decide) rfl w_77 (by decide +kernel)) ?_
  refine z_k (S_iload_n cx (k := 3) (by decide +kernel) rfl) ?_
  refine z_k (S_callV cx (T := F_Te) (N := 11) (r := r_Te_isSeal) rfl ⟨w_380, w_2, by decide, by decide +kernel⟩ w_508 w_378 w_379 rfl (by decide +kernel)) ?_
  exact z_k0
set_option maxRecDepth 100000 in
set_option maxHeartbeats 4000000 in
theorem s_St_sees_1 (cx : z_cx zTab g d p l e R s m args below meth c prog_1_method_18_code "SealedTalks" 4) (hn : meth.name = "sees") (hf : z_fin g p l e R s m args below meth c Q prog_1_method_18_code P (some .int)) : ∀ x ∈ k_St_sees_1, z_sn zTab g d p l e R s m args below meth c Q 4 P x := by
  unfold k_St_sees_1
  refine z_k (S_if_eq cx (off := 20) (by decide +kernel) (by decide)) ?_
  refine z_k (S_aload_n cx (k := 0) (by decide +kernel) rfl) ?_
  refine z_k (S_getf cx (T := F_St) (N := 4) (k := 0) rfl in_St (by decide) rfl w_77 (by decide +kernel)) ?_
  refine z_k (S_iload_n cx (k := 3) (by decide +kernel) rfl) ?_
  refine z_k (S_callV cx (T := F_Te) (N := 11) (r := r_Te_canOpen) rfl ⟨w_512, w_2, by decide, by decide +kernel⟩ w_509 w_510 w_511 rfl (by decide +kernel)) ?_
  refine z_k (S_if_eq cx (off := 7) (by decide +kernel) (by decide)) ?_
  refine z_k (S_push cx (n := 3) (by decide +kernel) (by decide)) ?_
  refine z_k (S_goto cx (off := 4) (by decide +kernel) (by decide)) ?_
  refine z_k (S_push cx (n := 4) (by decide +kernel) (by decide)) ?_
  refine z_k (S_iret (hf.2.1 rfl) (by decide +kernel)) ?_
  refine z_k (S_push cx (n := -1) (by decide +kernel) (by decide)) ?_
  refine z_k (S_iret (hf.2.1 rfl) (by decide +kernel)) ?_
  exact z_k0
theorem s_St_sees : z_snd zTab r_St_sees := ⟨by decide +kernel, w_505, fun g d p l e R s m args below meth c Q P cx hn hf => z_k (s_St_sees_0 cx hn hf) (z_k (s_St_sees_1 cx hn hf) (z_k0))⟩
set_option maxRecDepth 100000 in
set_option maxHeartbeats 4000000 in
theorem s_St_shown_0 (cx : z_cx zTab g d p l e R s m args below meth c prog_1_method_19_code "SealedTalks" 5) (hn : meth.name = "shown") (hf : z_fin g p l e R s m args below meth c Q prog_1_method_19_code P (some .int)) : ∀ x ∈ k_St_shown_0, z_sn zTab g d p l e R s m args below meth c Q 5 P x := by
  unfold k_St_shown_0
  refine z_k (S_aload_n cx (k := 0) (by decide +kernel) rfl) ?_
  refine z_k (S_getf cx (T := F_St) (N := 4) (k := 1) rfl in_St (by decide) rfl w_78 (by decide +kernel)) ?_
  refine z_k (S_iload_n cx (k := 1) (by decide +kernel) rfl) ?_
  refine z_k (S_iload_n cx (k := 2) (by decide +kernel) rfl) ?_
  refine z_k (S_callV cx (T := F_Me) (N := 3) (r := r_Me_partAt) rfl ⟨w_354, w_3, by decide, by decide +kernel⟩ w_438 w_352 w_353 rfl (by decide +kernel)) ?_
  refine z_k (S_istore_n cx (by decide) (k := 3) (by decide +kernel) rfl) ?_
  refine z_k (S_aload_n cx (k := 0) (by decide +kernel) rfl) ?_
  refine z_k (S_getf cx (T := F_St) (N := 4) (k := 0) rfl in_St (by decide) rfl w_77 (by decide +kernel)) ?_
  refine z_k (S_iload_n cx (k := 3) (by decide +kernel) rfl) ?_
  refine z_k (S_callV cx (T := F_Te) (N := 11) (r := r_Te_isSeal) rfl ⟨w_380, w_2, by decide, by decide +kernel⟩ w_508 w_378 w_379 rfl (by decide +kernel)) ?_
  refine z_k (S_if_eq cx (off := 25) (by decide +kernel) (by decide)) ?_
  refine z_k (S_aload_n cx (k := 0) (by decide +kernel) rfl) ?_
  refine z_k (S_getf cx (T := F_St) (N := 4) (k := 0) rfl in_St (by decide) rfl w_77 (by decide +kernel)) ?_
  refine z_k (S_iload_n cx (k := 3) (by decide +kernel) rfl) ?_
  refine z_k (S_callV cx (T := F_Te) (N := 11) (r := r_Te_canOpen) rfl ⟨w_512, w_2, by decide, by decide +kernel⟩ w_509 w_510 w_511 rfl (by decide +kernel)) ?_
  refine z_k (S_if_eq cx (off := 14) (by decide +kernel) (by decide)) ?_
  refine z_k (S_aload_n cx (k := 0) (by decide +kernel) rfl) ?_
  refine z_k (S_getf cx (T := F_St) (N := 4) (k := 0) rfl in_St (by decide) rfl w_77 (by decide +kernel)) ?_
  refine z_k (S_iload_n cx (k := 3) (by decide +kernel) rfl) ?_
  refine z_k (S_callV cx (T := F_Te) (N := 11) (r := r_Te_insideOf) rfl ⟨w_384, w_2, by decide, by decide +kernel⟩ w_517 w_382 w_383 rfl (by decide +kernel)) ?_
  refine z_k (S_goto cx (off := 4) (by decide +kernel) (by decide)) ?_
  refine z_k (S_iload_n cx (k := 3) (by decide +kernel) rfl) ?_
  refine z_k (S_istore cx (by decide) (by decide +kernel)) ?_
  refine z_k (S_aload_n cx (k := 0) (by decide +kernel) rfl) ?_
  exact z_k0
set_option maxRecDepth 100000 in
set_option maxHeartbeats 4000000 in
theorem s_St_shown_1 (cx : z_cx zTab g d p l e R s m args below meth c prog_1_method_19_code "SealedTalks" 5) (hn : meth.name = "shown") (hf : z_fin g p l e R s m args below meth c Q prog_1_method_19_code P (some .int)) : ∀ x ∈ k_St_shown_1, z_sn zTab g d p l e R s m args below meth c Q 5 P x := by
  unfold k_St_shown_1
  refine z_k (S_getf cx (T := F_St) (N := 4) (k := 0) rfl in_St (by decide) rfl w_77 (by decide +kernel)) ?_
  refine z_k (S_iload cx (by decide +kernel)) ?_
  refine z_k (S_callV cx (T := F_Te) (N := 11) (r := r_Te_isNum) rfl ⟨w_364, w_2, by decide, by decide +kernel⟩ w_506 w_362 w_363 rfl (by decide +kernel)) ?_
  refine z_k (S_if_ne cx (off := 15) (by decide +kernel) (by decide)) ?_
  refine z_k (S_aload_n cx (k := 0) (by decide +kernel) rfl) ?_
  refine z_k (S_getf cx (T := F_St) (N := 4) (k := 0) rfl in_St (by decide) rfl w_77 (by decide +kernel)) ?_
  refine z_k (S_iload cx (by decide +kernel)) ?_
  refine z_k (S_callV cx (T := F_Te) (N := 11) (r := r_Te_isPub) rfl ⟨w_422, w_2, by decide, by decide +kernel⟩ w_507 w_420 w_421 rfl (by decide +kernel)) ?_
  refine z_k (S_if_eq cx (off := 15) (by decide +kernel) (by decide)) ?_
  refine z_k (S_aload_n cx (k := 0) (by decide +kernel) rfl) ?_
  refine z_k (S_getf cx (T := F_St) (N := 4) (k := 0) rfl in_St (by decide) rfl w_77 (by decide +kernel)) ?_
  refine z_k (S_iload cx (by decide +kernel)) ?_
  refine z_k (S_callV cx (T := F_Te) (N := 11) (r := r_Te_valueOf) rfl ⟨w_368, w_2, by decide, by decide +kernel⟩ w_429 w_366 w_367 rfl (by decide +kernel)) ?_
  refine z_k (S_goto cx (off := 4) (by decide +kernel) (by decide)) ?_
  refine z_k (S_push cx (n := 0) (by decide +kernel) (by decide)) ?_
  refine z_k (S_iret (hf.2.1 rfl) (by decide +kernel)) ?_
  exact z_k0
theorem s_St_shown : z_snd zTab r_St_shown := ⟨by decide +kernel, w_516, fun g d p l e R s m args below meth c Q P cx hn hf => z_k (s_St_shown_0 cx hn hf) (z_k (s_St_shown_1 cx hn hf) (z_k0))⟩
set_option maxRecDepth 100000 in
set_option maxHeartbeats 4000000 in
theorem s_St_same_0 (cx : z_cx zTab g d p l e R s m args below meth c prog_1_method_20_code "SealedTalks" 6) (hn : meth.name = "same") (hf : z_fin g p l e R s m args below meth c Q prog_1_method_20_code P (some .boolean)) : ∀ x ∈ k_St_same_0, z_sn zTab g d p l e R s m args below meth c Q 6 P x := by
  unfold k_St_same_0
  refine z_k (S_aload_n cx (k := 0) (by decide +kernel) rfl) ?_
  refine z_k (S_getf cx (T := F_St) (N := 4) (k := 1) rfl in_St (by decide) rfl w_78 (by decide +kernel)) ?_
  refine z_k (S_iload_n cx (k := 1) (by decide +kernel) rfl) ?_
  refine z_k (S_iload_n cx (k := 2) (by decide +kernel) rfl) ?_
  refine z_k (S_callV cx (T := F_Me) (N := 3) (r := r_Me_partAt) rfl ⟨w_354, w_3, by decide, by decide +kernel⟩ w_438 w_352 w_353 rfl (by decide +kernel)) ?_
  refine z_k (S_istore cx (by decide) (by decide +kernel)) ?_
  refine z_k (S_iload cx (by decide +kernel)) ?_
  refine z_k (S_if_eq cx (off := 22) (by decide +kernel) (by decide)) ?_
  refine z_k (S_iload cx (by decide +kernel)) ?_
  refine z_k (S_aload_n cx (k := 0) (by decide +kernel) rfl) ?_
  refine z_k (S_getf cx (T := F_St) (N := 4) (k := 1) rfl in_St (by decide) rfl w_78 (by decide +kernel)) ?_
  refine z_k (S_iload_n cx (k := 3) (by decide +kernel) rfl) ?_
  refine z_k (S_iload cx (by decide +kernel)) ?_
  refine z_k (S_callV cx (T := F_Me) (N := 3) (r := r_Me_partAt) rfl ⟨w_354, w_3, by decide, by decide +kernel⟩ w_438 w_352 w_353 rfl (by decide +kernel)) ?_
  refine z_k (S_icmp_ne cx (off := 7) (by decide +kernel) (by decide)) ?_
  refine z_k (S_push cx (n := 1) (by decide +kernel) (by decide)) ?_
  refine z_k (S_goto cx (off := 4) (by decide +kernel) (by decide)) ?_
  refine z_k (S_push cx (n := 0) (by decide +kernel) (by decide)) ?_
  refine z_k (S_zret (hf.2.2.1 rfl) (by decide +kernel)) ?_
  exact z_k0
theorem s_St_same : z_snd zTab r_St_same := ⟨by decide +kernel, w_521, fun g d p l e R s m args below meth c Q P cx hn hf => z_k (s_St_same_0 cx hn hf) (z_k0)⟩
set_option maxRecDepth 100000 in
set_option maxHeartbeats 4000000 in
theorem s_St_isStaticKey_0 (cx : z_cx zTab g d p l e R s m args below meth c prog_1_method_21_code "SealedTalks" 1) (hn : meth.name = "isStaticKey") (hf : z_fin g p l e R s m args below meth c Q prog_1_method_21_code P (some .boolean)) : ∀ x ∈ k_St_isStaticKey_0, z_sn zTab g d p l e R s m args below meth c Q 1 P x := by
  unfold k_St_isStaticKey_0
  refine z_k (S_iload_n cx (k := 0) (by decide +kernel) rfl) ?_
  refine z_k (S_push cx (n := 1) (by decide +kernel) (by decide)) ?_
  refine z_k (S_icmp_lt cx (off := 13) (by decide +kernel) (by decide)) ?_
  refine z_k (S_iload_n cx (k := 0) (by decide +kernel) rfl) ?_
  refine z_k (S_bipush cx (n := 8) (by decide +kernel) (by decide)) ?_
  refine z_k (S_icmp_gt cx (off := 7) (by decide +kernel) (by decide)) ?_
  refine z_k (S_push cx (n := 1) (by decide +kernel) (by decide)) ?_
  refine z_k (S_goto cx (off := 4) (by decide +kernel) (by decide)) ?_
  refine z_k (S_push cx (n := 0) (by decide +kernel) (by decide)) ?_
  refine z_k (S_zret (hf.2.2.1 rfl) (by decide +kernel)) ?_
  exact z_k0
theorem s_St_isStaticKey : z_snd zTab r_St_isStaticKey := ⟨by decide +kernel, w_96, fun g d p l e R s m args below meth c Q P cx hn hf => z_k (s_St_isStaticKey_0 cx hn hf) (z_k0)⟩
set_option maxRecDepth 100000 in
set_option maxHeartbeats 4000000 in
theorem s_St_sessionAt_0 (cx : z_cx zTab g d p l e R s m args below meth c prog_1_method_22_code "SealedTalks" 2) (hn : meth.name = "sessionAt") (hf : z_fin g p l e R s m args below meth c Q prog_1_method_22_code P (some (.object "SealedTalks$Session"))) : ∀ x ∈ k_St_sessionAt_0, z_sn zTab g d p l e R s m args below meth c Q 2 P x := by
  unfold k_St_sessionAt_0
  refine z_k (S_iload_n cx (k := 1) (by decide +kernel) rfl) ?_
  refine z_k (S_if_lt cx (off := 20) (by decide +kernel) (by decide)) ?_
  refine z_k (S_iload_n cx (k := 1) (by decide +kernel) rfl) ?_
  refine z_k (S_aload_n cx (k := 0) (by decide +kernel) rfl) ?_
  refine z_k (S_getf cx (T := F_St) (N := 4) (k := 3) rfl in_St (by decide) rfl w_80 (by decide +kernel)) ?_
  refine z_k (S_icmp_ge cx (off := 12) (by decide +kernel) (by decide)) ?_
  refine z_k (S_aload_n cx (k := 0) (by decide +kernel) rfl) ?_
  refine z_k (S_getf cx (T := F_St) (N := 4) (k := 2) rfl in_St (by decide) rfl w_79 (by decide +kernel)) ?_
  refine z_k (S_iload_n cx (k := 1) (by decide +kernel) rfl) ?_
  refine z_k (S_aald cx (by decide +kernel)) ?_
  refine z_k (S_goto cx (off := 4) (by decide +kernel) (by decide)) ?_
  refine z_k (S_null cx (by decide +kernel)) ?_
  refine z_k (S_aret (hf.2.2.2 _ rfl) (by decide +kernel)) ?_
  exact z_k0
theorem s_St_sessionAt : z_snd zTab r_St_sessionAt := ⟨by decide +kernel, w_240, fun g d p l e R s m args below meth c Q P cx hn hf => z_k (s_St_sessionAt_0 cx hn hf) (z_k0)⟩
set_option maxRecDepth 100000 in
set_option maxHeartbeats 4000000 in
theorem s_St_makeChanged_0 (cx : z_cx zTab g d p l e R s m args below meth c prog_1_method_23_code "SealedTalks" 5) (hn : meth.name = "makeChanged") (hf : z_fin g p l e R s m args below meth c Q prog_1_method_23_code P (some .int)) : ∀ x ∈ k_St_makeChanged_0, z_sn zTab g d p l e R s m args below meth c Q 5 P x := by
  unfold k_St_makeChanged_0
  refine z_k (S_push cx (n := 0) (by decide +kernel) (by decide)) ?_
  refine z_k (S_istore cx (by decide) (by decide +kernel)) ?_
  refine z_k (S_iload cx (by decide +kernel)) ?_
  refine z_k (S_aload_n cx (k := 0) (by decide +kernel) rfl) ?_
  refine z_k (S_getf cx (T := F_St) (N := 4) (k := 1) rfl in_St (by decide) rfl w_78 (by decide +kernel)) ?_
  refine z_k (S_iload_n cx (k := 1) (by decide +kernel) rfl) ?_
  refine z_k (S_callV cx (T := F_Me) (N := 3) (r := r_Me_sizeOf) rfl ⟨w_358, w_3, by decide, by decide +kernel⟩ w_443 w_356 w_357 rfl (by decide +kernel)) ?_
  refine z_k (S_icmp_ge cx (off := 36) (by decide +kernel) (by decide)) ?_
  refine z_k (S_aload_n cx (k := 0) (by decide +kernel) rfl) ?_
  refine z_k (S_getf cx (T := F_St) (N := 4) (k := 1) rfl in_St (by decide) rfl w_78 (by decide +kernel)) ?_
  refine z_k (S_iload cx (by decide +kernel)) ?_
  refine z_k (S_iload_n cx (k := 2) (by decide +kernel) rfl) ?_
  refine z_k (S_icmp_ne cx (off := 7) (by decide +kernel) (by decide)) ?_
  refine z_k (S_iload_n cx (k := 3) (by decide +kernel) rfl) ?_
  refine z_k (S_goto cx (off := 13) (by decide +kernel) (by decide)) ?_
  refine z_k (S_aload_n cx (k := 0) (by decide +kernel) rfl) ?_
  refine z_k (S_getf cx (T := F_St) (N := 4) (k := 1) rfl in_St (by decide) rfl w_78 (by decide +kernel)) ?_
  refine z_k (S_iload_n cx (k := 1) (by decide +kernel) rfl) ?_
  refine z_k (S_iload cx (by decide +kernel)) ?_
  refine z_k (S_callV cx (T := F_Me) (N := 3) (r := r_Me_partAt) rfl ⟨w_354, w_3, by decide, by decide +kernel⟩ w_438 w_352 w_353 rfl (by decide +kernel)) ?_
  refine z_k (S_callV cx (T := F_Me) (N := 3) (r := r_Me_addPart) rfl ⟨w_278, w_3, by decide, by decide +kernel⟩ w_444 w_276 w_277 rfl (by decide +kernel)) ?_
  refine z_k (S_iinc cx (n := 1) (by decide) (by decide +kernel) (by decide)) ?_
  refine z_k (S_goto cx (off := -43) (by decide +kernel) (by decide)) ?_
  refine z_k (S_aload_n cx (k := 0) (by decide +kernel) rfl) ?_
  exact z_k0
set_option maxRecDepth 100000 in
set_option maxHeartbeats 4000000 in
theorem s_St_makeChanged_1 (cx : z_cx zTab g d p l e R s m args below meth c prog_1_method_23_code "SealedTalks" 5) (hn : meth.name = "makeChanged") (hf : z_fin g p l e R s m args below meth c Q prog_1_method_23_code P (some .int)) : ∀ x ∈ k_St_makeChanged_1, z_sn zTab g d p l e R s m args below meth c Q 5 P x := by
  unfold k_St_makeChanged_1
  refine z_k (S_getf cx (T := F_St) (N := 4) (k := 1) rfl in_St (by decide) rfl w_78 (by decide +kernel)) ?_
  refine z_k (S_callV cx (T := F_Me) (N := 3) (r := r_Me_finish) rfl ⟨w_326, w_3, by decide, by decide +kernel⟩ w_323 w_324 w_325 rfl (by decide +kernel)) ?_
  refine z_k (S_iret (hf.2.1 rfl) (by decide +kernel)) ?_
  exact z_k0
theorem s_St_makeChanged : z_snd zTab r_St_makeChanged := ⟨by decide +kernel, w_442, fun g d p l e R s m args below meth c Q P cx hn hf => z_k (s_St_makeChanged_0 cx hn hf) (z_k (s_St_makeChanged_1 cx hn hf) (z_k0))⟩
end ZR30
