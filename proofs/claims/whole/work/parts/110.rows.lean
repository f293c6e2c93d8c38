/-! Each method of SealedTalks$Channel, SealedTalks$Messages, SealedTalks$Session is sound (0). By program. -/
section ZR10
variable {g : zG} {d : Nat} {p : Program} {l : Launch} {e : Env} {R : Room} {s : State} {m : MethodId} {args : Array Value} {below : List Frame} {meth : Method} {c : Code} {Q : State → Prop} {P : zP}
set_option maxRecDepth 100000 in
set_option maxHeartbeats 4000000 in
theorem s_Ch_init_0 (cx : z_cx zTab g d p l e R s m args below meth c prog_3_method_1_code "SealedTalks$Channel" 2) (hn : meth.name = "<init>") (hf : z_fin g p l e R s m args below meth c Q prog_3_method_1_code P none) : ∀ x ∈ k_Ch_init_0, z_sn zTab g d p l e R s m args below meth c Q 2 P x := by
  unfold k_Ch_init_0
  refine z_k (S_aload_n cx (k := 0) (by decide +kernel) rfl) ?_
  refine z_k (S_oini cx w_107 w_15 w_16 (by decide +kernel)) ?_
  refine z_k (S_aload_n cx (k := 0) (by decide +kernel) rfl) ?_
  refine z_k (S_bipush cx (n := 60) (by decide +kernel) (by decide)) ?_
  refine z_k (S_newa cx (kd := 1) (at0 := .boolean) (ty := .boolean) rfl rfl w_58 (by decide) rfl (fun _ _ h => h) (by decide +kernel)) ?_
  refine z_k (S_putF cx (T := F_Ch) (N := 6) (k := 1) (ty := t_Ch) rfl in_Ch t_Ch_ok n_Ch (by decide) rfl w_109 rfl hn rfl (Or.inr (Or.inr ⟨rfl, Or.inr ⟨_, rfl⟩⟩)) (by decide +kernel)) ?_
  refine z_k (S_aload_n cx (k := 0) (by decide +kernel) rfl) ?_
  refine z_k (S_push cx (n := 0) (by decide +kernel) (by decide)) ?_
  refine z_k (S_putf cx (T := F_Ch) (N := 6) (k := 2) (ty := t_Ch) rfl in_Ch t_Ch_ok n_Ch (by decide) rfl w_110 rfl (Or.inl ⟨rfl, rfl⟩) (by decide +kernel)) ?_
  refine z_k (S_aload_n cx (k := 0) (by decide +kernel) rfl) ?_
  refine z_k (S_push cx (n := 0) (by decide +kernel) (by decide)) ?_
  refine z_k (S_putf cx (T := F_Ch) (N := 6) (k := 3) (ty := t_Ch) rfl in_Ch t_Ch_ok n_Ch (by decide) rfl w_112 rfl (Or.inl ⟨rfl, rfl⟩) (by decide +kernel)) ?_
  refine z_k (S_aload_n cx (k := 0) (by decide +kernel) rfl) ?_
  refine z_k (S_push cx (n := 0) (by decide +kernel) (by decide)) ?_
  refine z_k (S_putf cx (T := F_Ch) (N := 6) (k := 4) (ty := t_Ch) rfl in_Ch t_Ch_ok n_Ch (by decide) rfl w_114 rfl (Or.inl ⟨rfl, rfl⟩) (by decide +kernel)) ?_
  refine z_k (S_aload_n cx (k := 0) (by decide +kernel) rfl) ?_
  refine z_k (S_push cx (n := -1) (by decide +kernel) (by decide)) ?_
  refine z_k (S_putf cx (T := F_Ch) (N := 6) (k := 5) (ty := t_Ch) rfl in_Ch t_Ch_ok n_Ch (by decide) rfl w_115 rfl (Or.inl ⟨rfl, rfl⟩) (by decide +kernel)) ?_
  refine z_k (S_aload_n cx (k := 0) (by decide +kernel) rfl) ?_
  refine z_k (S_aload_n cx (k := 1) (by decide +kernel) rfl) ?_
  refine z_k (S_putF cx (T := F_Ch) (N := 6) (k := 0) (ty := t_Ch) rfl in_Ch t_Ch_ok n_Ch (by decide) rfl w_108 rfl hn rfl (Or.inr (Or.inr ⟨rfl, Or.inl ⟨_, rfl⟩⟩)) (by decide +kernel)) ?_
  refine z_k (S_vret (hf.1 rfl) (by decide +kernel)) ?_
  exact z_k0
theorem s_Ch_init : z_snd zTab r_Ch_init := ⟨by decide +kernel, w_106, fun g d p l e R s m args below meth c Q P cx hn hf => z_k (s_Ch_init_0 cx hn hf) (z_k0)⟩
set_option maxRecDepth 100000 in
set_option maxHeartbeats 4000000 in
theorem s_Ch_setKeys_0 (cx : z_cx zTab g d p l e R s m args below meth c prog_3_method_2_code "SealedTalks$Channel" 3) (hn : meth.name = "setKeys") (hf : z_fin g p l e R s m args below meth c Q prog_3_method_2_code P none) : ∀ x ∈ k_Ch_setKeys_0, z_sn zTab g d p l e R s m args below meth c Q 3 P x := by
  unfold k_Ch_setKeys_0
  refine z_k (S_aload_n cx (k := 0) (by decide +kernel) rfl) ?_
  refine z_k (S_aload_n cx (k := 0) (by decide +kernel) rfl) ?_
  refine z_k (S_getf cx (T := F_Ch) (N := 6) (k := 0) rfl in_Ch (by decide) rfl w_108 (by decide +kernel)) ?_
  refine z_k (S_iload_n cx (k := 1) (by decide +kernel) rfl) ?_
  refine z_k (S_iload_n cx (k := 2) (by decide +kernel) rfl) ?_
  refine z_k (S_if_eq cx (off := 7) (by decide +kernel) (by decide)) ?_
  refine z_k (S_push cx (n := 1) (by decide +kernel) (by decide)) ?_
  refine z_k (S_goto cx (off := 4) (by decide +kernel) (by decide)) ?_
  refine z_k (S_push cx (n := 2) (by decide +kernel) (by decide)) ?_
  refine z_k (S_callV cx (T := F_Te) (N := 11) (r := r_Te_half) rfl ⟨w_322, w_2, by decide, by decide +kernel⟩ w_319 w_320 w_321 rfl (by decide +kernel)) ?_
  refine z_k (S_putf cx (T := F_Ch) (N := 6) (k := 2) (ty := t_Ch) rfl in_Ch t_Ch_ok n_Ch (by decide) rfl w_110 rfl (Or.inl ⟨rfl, rfl⟩) (by decide +kernel)) ?_
  refine z_k (S_aload_n cx (k := 0) (by decide +kernel) rfl) ?_
  refine z_k (S_aload_n cx (k := 0) (by decide +kernel) rfl) ?_
  refine z_k (S_getf cx (T := F_Ch) (N := 6) (k := 0) rfl in_Ch (by decide) rfl w_108 (by decide +kernel)) ?_
  refine z_k (S_iload_n cx (k := 1) (by decide +kernel) rfl) ?_
  refine z_k (S_iload_n cx (k := 2) (by decide +kernel) rfl) ?_
  refine z_k (S_if_eq cx (off := 7) (by decide +kernel) (by decide)) ?_
  refine z_k (S_push cx (n := 2) (by decide +kernel) (by decide)) ?_
  refine z_k (S_goto cx (off := 4) (by decide +kernel) (by decide)) ?_
  refine z_k (S_push cx (n := 1) (by decide +kernel) (by decide)) ?_
  refine z_k (S_callV cx (T := F_Te) (N := 11) (r := r_Te_half) rfl ⟨w_322, w_2, by decide, by decide +kernel⟩ w_319 w_320 w_321 rfl (by decide +kernel)) ?_
  refine z_k (S_putf cx (T := F_Ch) (N := 6) (k := 3) (ty := t_Ch) rfl in_Ch t_Ch_ok n_Ch (by decide) rfl w_112 rfl (Or.inl ⟨rfl, rfl⟩) (by decide +kernel)) ?_
  refine z_k (S_vret (hf.1 rfl) (by decide +kernel)) ?_
  exact z_k0
theorem s_Ch_setKeys : z_snd zTab r_Ch_setKeys := ⟨by decide +kernel, w_318, fun g d p l e R s m args below meth c Q P cx hn hf => z_k (s_Ch_setKeys_0 cx hn hf) (z_k0)⟩
set_option maxRecDepth 100000 in
set_option maxHeartbeats 4000000 in
theorem s_Ch_sendNext_0 (cx : z_cx zTab g d p l e R s m args below meth c prog_3_method_3_code "SealedTalks$Channel" 3) (hn : meth.name = "sendNext") (hf : z_fin g p l e R s m args below meth c Q prog_3_method_3_code P none) : ∀ x ∈ k_Ch_sendNext_0, z_sn zTab g d p l e R s m args below meth c Q 3 P x := by
  unfold k_Ch_sendNext_0
  refine z_k (S_aload_n cx (k := 1) (by decide +kernel) rfl) ?_
  refine z_k (S_aload_n cx (k := 0) (by decide +kernel) rfl) ?_
  refine z_k (S_getf cx (T := F_Ch) (N := 6) (k := 0) rfl in_Ch (by decide) rfl w_108 (by decide +kernel)) ?_
  refine z_k (S_aload_n cx (k := 0) (by decide +kernel) rfl) ?_
  refine z_k (S_getf cx (T := F_Ch) (N := 6) (k := 4) rfl in_Ch (by decide) rfl w_114 (by decide +kernel)) ?_
  refine z_k (S_callV cx (T := F_Te) (N := 11) (r := r_Te_num) rfl ⟨w_213, w_2, by decide, by decide +kernel⟩ w_336 w_211 w_212 rfl (by decide +kernel)) ?_
  refine z_k (S_callV cx (T := F_Me) (N := 3) (r := r_Me_addPart) rfl ⟨w_278, w_3, by decide, by decide +kernel⟩ w_337 w_276 w_277 rfl (by decide +kernel)) ?_
  refine z_k (S_aload_n cx (k := 1) (by decide +kernel) rfl) ?_
  refine z_k (S_aload_n cx (k := 0) (by decide +kernel) rfl) ?_
  refine z_k (S_getf cx (T := F_Ch) (N := 6) (k := 0) rfl in_Ch (by decide) rfl w_108 (by decide +kernel)) ?_
  refine z_k (S_aload_n cx (k := 0) (by decide +kernel) rfl) ?_
  refine z_k (S_getf cx (T := F_Ch) (N := 6) (k := 2) rfl in_Ch (by decide) rfl w_110 (by decide +kernel)) ?_
  refine z_k (S_aload_n cx (k := 0) (by decide +kernel) rfl) ?_
  refine z_k (S_getf cx (T := F_Ch) (N := 6) (k := 4) rfl in_Ch (by decide) rfl w_114 (by decide +kernel)) ?_
  refine z_k (S_aload_n cx (k := 0) (by decide +kernel) rfl) ?_
  refine z_k (S_getf cx (T := F_Ch) (N := 6) (k := 0) rfl in_Ch (by decide) rfl w_108 (by decide +kernel)) ?_
  refine z_k (S_push cx (n := 0) (by decide +kernel) (by decide)) ?_
  refine z_k (S_callV cx (T := F_Te) (N := 11) (r := r_Te_num) rfl ⟨w_213, w_2, by decide, by decide +kernel⟩ w_336 w_211 w_212 rfl (by decide +kernel)) ?_
  refine z_k (S_aload_n cx (k := 0) (by decide +kernel) rfl) ?_
  refine z_k (S_getf cx (T := F_Ch) (N := 6) (k := 0) rfl in_Ch (by decide) rfl w_108 (by decide +kernel)) ?_
  refine z_k (S_iload_n cx (k := 2) (by decide +kernel) rfl) ?_
  refine z_k (S_callV cx (T := F_Te) (N := 11) (r := r_Te_num) rfl ⟨w_213, w_2, by decide, by decide +kernel⟩ w_336 w_211 w_212 rfl (by decide +kernel)) ?_
  refine z_k (S_callV cx (T := F_Te) (N := 11) (r := r_Te_seal) rfl ⟨w_287, w_2, by decide, by decide +kernel⟩ w_338 w_285 w_286 rfl (by decide +kernel)) ?_
  refine z_k (S_callV cx (T := F_Me) (N := 3) (r := r_Me_addPart) rfl ⟨w_278, w_3, by decide, by decide +kernel⟩ w_337 w_276 w_277 rfl (by decide +kernel)) ?_
  exact z_k0
set_option maxRecDepth 100000 in
set_option maxHeartbeats 4000000 in
theorem s_Ch_sendNext_1 (cx : z_cx zTab g d p l e R s m args below meth c prog_3_method_3_code "SealedTalks$Channel" 3) (hn : meth.name = "sendNext") (hf : z_fin g p l e R s m args below meth c Q prog_3_method_3_code P none) : ∀ x ∈ k_Ch_sendNext_1, z_sn zTab g d p l e R s m args below meth c Q 3 P x := by
  unfold k_Ch_sendNext_1
  refine z_k (S_aload_n cx (k := 0) (by decide +kernel) rfl) ?_
  refine z_k (S_dup cx (by decide +kernel)) ?_
  refine z_k (S_getf cx (T := F_Ch) (N := 6) (k := 4) rfl in_Ch (by decide) rfl w_114 (by decide +kernel)) ?_
  refine z_k (S_push cx (n := 1) (by decide +kernel) (by decide)) ?_
  refine z_k (S_iadd cx (by decide +kernel)) ?_
  refine z_k (S_putf cx (T := F_Ch) (N := 6) (k := 4) (ty := t_Ch) rfl in_Ch t_Ch_ok n_Ch (by decide) rfl w_114 rfl (Or.inl ⟨rfl, rfl⟩) (by decide +kernel)) ?_
  refine z_k (S_vret (hf.1 rfl) (by decide +kernel)) ?_
  exact z_k0
theorem s_Ch_sendNext : z_snd zTab r_Ch_sendNext := ⟨by decide +kernel, w_335, fun g d p l e R s m args below meth c Q P cx hn hf => z_k (s_Ch_sendNext_0 cx hn hf) (z_k (s_Ch_sendNext_1 cx hn hf) (z_k0))⟩
set_option maxRecDepth 100000 in
set_option maxHeartbeats 4000000 in
theorem s_Ch_acceptNext_0 (cx : z_cx zTab g d p l e R s m args below meth c prog_3_method_4_code "SealedTalks$Channel" 6) (hn : meth.name = "acceptNext") (hf : z_fin g p l e R s m args below meth c Q prog_3_method_4_code P (some .int)) : ∀ x ∈ k_Ch_acceptNext_0, z_sn zTab g d p l e R s m args below meth c Q 6 P x := by
  unfold k_Ch_acceptNext_0
  refine z_k (S_aload_n cx (k := 1) (by decide +kernel) rfl) ?_
  refine z_k (S_iload_n cx (k := 2) (by decide +kernel) rfl) ?_
  refine z_k (S_push cx (n := 0) (by decide +kernel) (by decide)) ?_
  refine z_k (S_callV cx (T := F_Me) (N := 3) (r := r_Me_partAt) rfl ⟨w_354, w_3, by decide, by decide +kernel⟩ w_351 w_352 w_353 rfl (by decide +kernel)) ?_
  refine z_k (S_istore_n cx (by decide) (k := 3) (by decide +kernel) rfl) ?_
  refine z_k (S_aload_n cx (k := 1) (by decide +kernel) rfl) ?_
  refine z_k (S_iload_n cx (k := 2) (by decide +kernel) rfl) ?_
  refine z_k (S_push cx (n := 1) (by decide +kernel) (by decide)) ?_
  refine z_k (S_callV cx (T := F_Me) (N := 3) (r := r_Me_partAt) rfl ⟨w_354, w_3, by decide, by decide +kernel⟩ w_351 w_352 w_353 rfl (by decide +kernel)) ?_
  refine z_k (S_istore cx (by decide) (by decide +kernel)) ?_
  refine z_k (S_aload_n cx (k := 1) (by decide +kernel) rfl) ?_
  refine z_k (S_iload_n cx (k := 2) (by decide +kernel) rfl) ?_
  refine z_k (S_callV cx (T := F_Me) (N := 3) (r := r_Me_sizeOf) rfl ⟨w_358, w_3, by decide, by decide +kernel⟩ w_360 w_356 w_357 rfl (by decide +kernel)) ?_
  refine z_k (S_push cx (n := 2) (by decide +kernel) (by decide)) ?_
  refine z_k (S_icmp_ne cx (off := 14) (by decide +kernel) (by decide)) ?_
  refine z_k (S_aload_n cx (k := 0) (by decide +kernel) rfl) ?_
  refine z_k (S_getf cx (T := F_Ch) (N := 6) (k := 0) rfl in_Ch (by decide) rfl w_108 (by decide +kernel)) ?_
  refine z_k (S_iload_n cx (k := 3) (by decide +kernel) rfl) ?_
  refine z_k (S_callV cx (T := F_Te) (N := 11) (r := r_Te_isNum) rfl ⟨w_364, w_2, by decide, by decide +kernel⟩ w_361 w_362 w_363 rfl (by decide +kernel)) ?_
  refine z_k (S_if_ne cx (off := 5) (by decide +kernel) (by decide)) ?_
  refine z_k (S_push cx (n := 0) (by decide +kernel) (by decide)) ?_
  refine z_k (S_iret (hf.2.1 rfl) (by decide +kernel)) ?_
  refine z_k (S_aload_n cx (k := 0) (by decide +kernel) rfl) ?_
  refine z_k (S_getf cx (T := F_Ch) (N := 6) (k := 0) rfl in_Ch (by decide) rfl w_108 (by decide +kernel)) ?_
  exact z_k0
set_option maxRecDepth 100000 in
set_option maxHeartbeats 4000000 in
theorem s_Ch_acceptNext_1 (cx : z_cx zTab g d p l e R s m args below meth c prog_3_method_4_code "SealedTalks$Channel" 6) (hn : meth.name = "acceptNext") (hf : z_fin g p l e R s m args below meth c Q prog_3_method_4_code P (some .int)) : ∀ x ∈ k_Ch_acceptNext_1, z_sn zTab g d p l e R s m args below meth c Q 6 P x := by
  unfold k_Ch_acceptNext_1
  refine z_k (S_iload_n cx (k := 3) (by decide +kernel) rfl) ?_
  refine z_k (S_callV cx (T := F_Te) (N := 11) (r := r_Te_valueOf) rfl ⟨w_368, w_2, by decide, by decide +kernel⟩ w_365 w_366 w_367 rfl (by decide +kernel)) ?_
  refine z_k (S_istore cx (by decide) (by decide +kernel)) ?_
  refine z_k (S_aload_n cx (k := 0) (by decide +kernel) rfl) ?_
  refine z_k (S_iload cx (by decide +kernel)) ?_
  refine z_k (S_callV cx (T := F_Ch) (N := 6) (r := r_Ch_isFresh) rfl ⟨w_372, w_6, by decide, by decide +kernel⟩ w_369 w_371 wp_8 rfl (by decide +kernel)) ?_
  refine z_k (S_if_eq cx (off := 48) (by decide +kernel) (by decide)) ?_
  refine z_k (S_aload_n cx (k := 0) (by decide +kernel) rfl) ?_
  refine z_k (S_getf cx (T := F_Ch) (N := 6) (k := 0) rfl in_Ch (by decide) rfl w_108 (by decide +kernel)) ?_
  refine z_k (S_iload cx (by decide +kernel)) ?_
  refine z_k (S_aload_n cx (k := 0) (by decide +kernel) rfl) ?_
  refine z_k (S_getf cx (T := F_Ch) (N := 6) (k := 3) rfl in_Ch (by decide) rfl w_112 (by decide +kernel)) ?_
  refine z_k (S_iload cx (by decide +kernel)) ?_
  refine z_k (S_aload_n cx (k := 0) (by decide +kernel) rfl) ?_
  refine z_k (S_getf cx (T := F_Ch) (N := 6) (k := 0) rfl in_Ch (by decide) rfl w_108 (by decide +kernel)) ?_
  refine z_k (S_push cx (n := 0) (by decide +kernel) (by decide)) ?_
  refine z_k (S_callV cx (T := F_Te) (N := 11) (r := r_Te_num) rfl ⟨w_213, w_2, by decide, by decide +kernel⟩ w_336 w_211 w_212 rfl (by decide +kernel)) ?_
  refine z_k (S_callV cx (T := F_Te) (N := 11) (r := r_Te_isSealOf) rfl ⟨w_376, w_2, by decide, by decide +kernel⟩ w_373 w_374 w_375 rfl (by decide +kernel)) ?_
  refine z_k (S_if_eq cx (off := 22) (by decide +kernel) (by decide)) ?_
  refine z_k (S_aload_n cx (k := 0) (by decide +kernel) rfl) ?_
  refine z_k (S_getf cx (T := F_Ch) (N := 6) (k := 0) rfl in_Ch (by decide) rfl w_108 (by decide +kernel)) ?_
  refine z_k (S_aload_n cx (k := 0) (by decide +kernel) rfl) ?_
  refine z_k (S_getf cx (T := F_Ch) (N := 6) (k := 0) rfl in_Ch (by decide) rfl w_108 (by decide +kernel)) ?_
  refine z_k (S_iload cx (by decide +kernel)) ?_
  exact z_k0
set_option maxRecDepth 100000 in
set_option maxHeartbeats 4000000 in
theorem s_Ch_acceptNext_2 (cx : z_cx zTab g d p l e R s m args below meth c prog_3_method_4_code "SealedTalks$Channel" 6) (hn : meth.name = "acceptNext") (hf : z_fin g p l e R s m args below meth c Q prog_3_method_4_code P (some .int)) : ∀ x ∈ k_Ch_acceptNext_2, z_sn zTab g d p l e R s m args below meth c Q 6 P x := by
  unfold k_Ch_acceptNext_2
  refine z_k (S_callV cx (T := F_Te) (N := 11) (r := r_Te_insideOf) rfl ⟨w_384, w_2, by decide, by decide +kernel⟩ w_381 w_382 w_383 rfl (by decide +kernel)) ?_
  refine z_k (S_callV cx (T := F_Te) (N := 11) (r := r_Te_isNum) rfl ⟨w_364, w_2, by decide, by decide +kernel⟩ w_361 w_362 w_363 rfl (by decide +kernel)) ?_
  refine z_k (S_if_ne cx (off := 5) (by decide +kernel) (by decide)) ?_
  refine z_k (S_push cx (n := 0) (by decide +kernel) (by decide)) ?_
  refine z_k (S_iret (hf.2.1 rfl) (by decide +kernel)) ?_
  refine z_k (S_aload_n cx (k := 0) (by decide +kernel) rfl) ?_
  refine z_k (S_getf cx (T := F_Ch) (N := 6) (k := 1) rfl in_Ch (by decide) rfl w_109 (by decide +kernel)) ?_
  refine z_k (S_iload cx (by decide +kernel)) ?_
  refine z_k (S_push cx (n := 1) (by decide +kernel) (by decide)) ?_
  refine z_k (S_zast cx (by decide +kernel)) ?_
  refine z_k (S_aload_n cx (k := 0) (by decide +kernel) rfl) ?_
  refine z_k (S_aload_n cx (k := 0) (by decide +kernel) rfl) ?_
  refine z_k (S_getf cx (T := F_Ch) (N := 6) (k := 5) rfl in_Ch (by decide) rfl w_115 (by decide +kernel)) ?_
  refine z_k (S_iload cx (by decide +kernel)) ?_
  refine z_k (S_mmax cx w_385 w_300 w_8 w_301 (by decide +kernel)) ?_
  refine z_k (S_putf cx (T := F_Ch) (N := 6) (k := 5) (ty := t_Ch) rfl in_Ch t_Ch_ok n_Ch (by decide) rfl w_115 rfl (Or.inl ⟨rfl, rfl⟩) (by decide +kernel)) ?_
  refine z_k (S_aload_n cx (k := 0) (by decide +kernel) rfl) ?_
  refine z_k (S_getf cx (T := F_Ch) (N := 6) (k := 0) rfl in_Ch (by decide) rfl w_108 (by decide +kernel)) ?_
  refine z_k (S_iload cx (by decide +kernel)) ?_
  refine z_k (S_callV cx (T := F_Te) (N := 11) (r := r_Te_insideOf) rfl ⟨w_384, w_2, by decide, by decide +kernel⟩ w_381 w_382 w_383 rfl (by decide +kernel)) ?_
  refine z_k (S_iret (hf.2.1 rfl) (by decide +kernel)) ?_
  exact z_k0
theorem s_Ch_acceptNext : z_snd zTab r_Ch_acceptNext := ⟨by decide +kernel, w_350, fun g d p l e R s m args below meth c Q P cx hn hf => z_k (s_Ch_acceptNext_0 cx hn hf) (z_k (s_Ch_acceptNext_1 cx hn hf) (z_k (s_Ch_acceptNext_2 cx hn hf) (z_k0)))⟩
set_option maxRecDepth 100000 in
set_option maxHeartbeats 4000000 in
theorem s_Ch_isFresh_0 (cx : z_cx zTab g d p l e R s m args below meth c prog_3_method_5_code "SealedTalks$Channel" 2) (hn : meth.name = "isFresh") (hf : z_fin g p l e R s m args below meth c Q prog_3_method_5_code P (some .boolean)) : ∀ x ∈ k_Ch_isFresh_0, z_sn zTab g d p l e R s m args below meth c Q 2 P x := by
  unfold k_Ch_isFresh_0
  refine z_k (S_iload_n cx (k := 1) (by decide +kernel) rfl) ?_
  refine z_k (S_if_lt cx (off := 33) (by decide +kernel) (by decide)) ?_
  refine z_k (S_iload_n cx (k := 1) (by decide +kernel) rfl) ?_
  refine z_k (S_bipush cx (n := 60) (by decide +kernel) (by decide)) ?_
  refine z_k (S_icmp_ge cx (off := 27) (by decide +kernel) (by decide)) ?_
  refine z_k (S_iload_n cx (k := 1) (by decide +kernel) rfl) ?_
  refine z_k (S_aload_n cx (k := 0) (by decide +kernel) rfl) ?_
  refine z_k (S_getf cx (T := F_Ch) (N := 6) (k := 5) rfl in_Ch (by decide) rfl w_115 (by decide +kernel)) ?_
  refine z_k (S_bipush cx (n := 8) (by decide +kernel) (by decide)) ?_
  refine z_k (S_isub cx (by decide +kernel)) ?_
  refine z_k (S_icmp_le cx (off := 16) (by decide +kernel) (by decide)) ?_
  refine z_k (S_aload_n cx (k := 0) (by decide +kernel) rfl) ?_
  refine z_k (S_getf cx (T := F_Ch) (N := 6) (k := 1) rfl in_Ch (by decide) rfl w_109 (by decide +kernel)) ?_
  refine z_k (S_iload_n cx (k := 1) (by decide +kernel) rfl) ?_
  refine z_k (S_zald cx (by decide +kernel)) ?_
  refine z_k (S_if_ne cx (off := 7) (by decide +kernel) (by decide)) ?_
  refine z_k (S_push cx (n := 1) (by decide +kernel) (by decide)) ?_
  refine z_k (S_goto cx (off := 4) (by decide +kernel) (by decide)) ?_
  refine z_k (S_push cx (n := 0) (by decide +kernel) (by decide)) ?_
  refine z_k (S_zret (hf.2.2.1 rfl) (by decide +kernel)) ?_
  exact z_k0
theorem s_Ch_isFresh : z_snd zTab r_Ch_isFresh := ⟨by decide +kernel, w_372, fun g d p l e R s m args below meth c Q P cx hn hf => z_k (s_Ch_isFresh_0 cx hn hf) (z_k0)⟩
set_option maxRecDepth 100000 in
set_option maxHeartbeats 4000000 in
theorem s_Me_init_0 (cx : z_cx zTab g d p l e R s m args below meth c prog_4_method_1_code "SealedTalks$Messages" 1) (hn : meth.name = "<init>") (hf : z_fin g p l e R s m args below meth c Q prog_4_method_1_code P none) : ∀ x ∈ k_Me_init_0, z_sn zTab g d p l e R s m args below meth c Q 1 P x := by
  unfold k_Me_init_0
  refine z_k (S_aload_n cx (k := 0) (by decide +kernel) rfl) ?_
  refine z_k (S_oini cx w_64 w_15 w_16 (by decide +kernel)) ?_
  refine z_k (S_aload_n cx (k := 0) (by decide +kernel) rfl) ?_
  refine z_k (S_bipush cx (n := 60) (by decide +kernel) (by decide)) ?_
  refine z_k (S_newa cx (kd := 0) (at0 := .int) (ty := .int) rfl rfl w_57 (by decide) rfl (fun _ _ h => h) (by decide +kernel)) ?_
  refine z_k (S_putF cx (T := F_Me) (N := 3) (k := 0) (ty := t_Me) rfl in_Me t_Me_ok n_Me (by decide) rfl w_65 rfl hn rfl (Or.inr (Or.inr ⟨rfl, Or.inr ⟨_, rfl⟩⟩)) (by decide +kernel)) ?_
  refine z_k (S_aload_n cx (k := 0) (by decide +kernel) rfl) ?_
  refine z_k (S_sipush cx (n := 180) (by decide +kernel) (by decide)) ?_
  refine z_k (S_newa cx (kd := 0) (at0 := .int) (ty := .int) rfl rfl w_57 (by decide) rfl (fun _ _ h => h) (by decide +kernel)) ?_
  refine z_k (S_putF cx (T := F_Me) (N := 3) (k := 1) (ty := t_Me) rfl in_Me t_Me_ok n_Me (by decide) rfl w_66 rfl hn rfl (Or.inr (Or.inr ⟨rfl, Or.inr ⟨_, rfl⟩⟩)) (by decide +kernel)) ?_
  refine z_k (S_aload_n cx (k := 0) (by decide +kernel) rfl) ?_
  refine z_k (S_push cx (n := 0) (by decide +kernel) (by decide)) ?_
  refine z_k (S_putf cx (T := F_Me) (N := 3) (k := 2) (ty := t_Me) rfl in_Me t_Me_ok n_Me (by decide) rfl w_67 rfl (Or.inl ⟨rfl, rfl⟩) (by decide +kernel)) ?_
  refine z_k (S_vret (hf.1 rfl) (by decide +kernel)) ?_
  exact z_k0
theorem s_Me_init : z_snd zTab r_Me_init := ⟨by decide +kernel, w_63, fun g d p l e R s m args below meth c Q P cx hn hf => z_k (s_Me_init_0 cx hn hf) (z_k0)⟩
set_option maxRecDepth 100000 in
set_option maxHeartbeats 4000000 in
theorem s_Me_isFull_0 (cx : z_cx zTab g d p l e R s m args below meth c prog_4_method_2_code "SealedTalks$Messages" 1) (hn : meth.name = "isFull") (hf : z_fin g p l e R s m args below meth c Q prog_4_method_2_code P (some .boolean)) : ∀ x ∈ k_Me_isFull_0, z_sn zTab g d p l e R s m args below meth c Q 1 P x := by
  unfold k_Me_isFull_0
  refine z_k (S_aload_n cx (k := 0) (by decide +kernel) rfl) ?_
  refine z_k (S_getf cx (T := F_Me) (N := 3) (k := 2) rfl in_Me (by decide) rfl w_67 (by decide +kernel)) ?_
  refine z_k (S_bipush cx (n := 60) (by decide +kernel) (by decide)) ?_
  refine z_k (S_icmp_lt cx (off := 7) (by decide +kernel) (by decide)) ?_
  refine z_k (S_push cx (n := 1) (by decide +kernel) (by decide)) ?_
  refine z_k (S_goto cx (off := 4) (by decide +kernel) (by decide)) ?_
  refine z_k (S_push cx (n := 0) (by decide +kernel) (by decide)) ?_
  refine z_k (S_zret (hf.2.2.1 rfl) (by decide +kernel)) ?_
  exact z_k0
theorem s_Me_isFull : z_snd zTab r_Me_isFull := ⟨by decide +kernel, w_252, fun g d p l e R s m args below meth c Q P cx hn hf => z_k (s_Me_isFull_0 cx hn hf) (z_k0)⟩
set_option maxRecDepth 100000 in
set_option maxHeartbeats 4000000 in
theorem s_Me_has_0 (cx : z_cx zTab g d p l e R s m args below meth c prog_4_method_3_code "SealedTalks$Messages" 2) (hn : meth.name = "has") (hf : z_fin g p l e R s m args below meth c Q prog_4_method_3_code P (some .boolean)) : ∀ x ∈ k_Me_has_0, z_sn zTab g d p l e R s m args below meth c Q 2 P x := by
  unfold k_Me_has_0
  refine z_k (S_iload_n cx (k := 1) (by decide +kernel) rfl) ?_
  refine z_k (S_if_lt cx (off := 15) (by decide +kernel) (by decide)) ?_
  refine z_k (S_iload_n cx (k := 1) (by decide +kernel) rfl) ?_
  refine z_k (S_aload_n cx (k := 0) (by decide +kernel) rfl) ?_
  refine z_k (S_getf cx (T := F_Me) (N := 3) (k := 2) rfl in_Me (by decide) rfl w_67 (by decide +kernel)) ?_
  refine z_k (S_icmp_ge cx (off := 7) (by decide +kernel) (by decide)) ?_
  refine z_k (S_push cx (n := 1) (by decide +kernel) (by decide)) ?_
  refine z_k (S_goto cx (off := 4) (by decide +kernel) (by decide)) ?_
  refine z_k (S_push cx (n := 0) (by decide +kernel) (by decide)) ?_
  refine z_k (S_zret (hf.2.2.1 rfl) (by decide +kernel)) ?_
  exact z_k0
theorem s_Me_has : z_snd zTab r_Me_has := ⟨by decide +kernel, w_346, fun g d p l e R s m args below meth c Q P cx hn hf => z_k (s_Me_has_0 cx hn hf) (z_k0)⟩
set_option maxRecDepth 100000 in
set_option maxHeartbeats 4000000 in
theorem s_Me_sizeOf_0 (cx : z_cx zTab g d p l e R s m args below meth c prog_4_method_4_code "SealedTalks$Messages" 2) (hn : meth.name = "sizeOf") (hf : z_fin g p l e R s m args below meth c Q prog_4_method_4_code P (some .int)) : ∀ x ∈ k_Me_sizeOf_0, z_sn zTab g d p l e R s m args below meth c Q 2 P x := by
  unfold k_Me_sizeOf_0
  refine z_k (S_aload_n cx (k := 0) (by decide +kernel) rfl) ?_
  refine z_k (S_iload_n cx (k := 1) (by decide +kernel) rfl) ?_
  refine z_k (S_callV cx (T := F_Me) (N := 3) (r := r_Me_has) rfl ⟨w_346, w_3, by decide, by decide +kernel⟩ w_359 w_344 w_345 rfl (by decide +kernel)) ?_
  refine z_k (S_if_eq cx (off := 12) (by decide +kernel) (by decide)) ?_
  refine z_k (S_aload_n cx (k := 0) (by decide +kernel) rfl) ?_
  refine z_k (S_getf cx (T := F_Me) (N := 3) (k := 0) rfl in_Me (by decide) rfl w_65 (by decide +kernel)) ?_
  refine z_k (S_iload_n cx (k := 1) (by decide +kernel) rfl) ?_
  refine z_k (S_iald cx (by decide +kernel)) ?_
  refine z_k (S_goto cx (off := 4) (by decide +kernel) (by decide)) ?_
  refine z_k (S_push cx (n := 0) (by decide +kernel) (by decide)) ?_
  refine z_k (S_iret (hf.2.1 rfl) (by decide +kernel)) ?_
  exact z_k0
theorem s_Me_sizeOf : z_snd zTab r_Me_sizeOf := ⟨by decide +kernel, w_358, fun g d p l e R s m args below meth c Q P cx hn hf => z_k (s_Me_sizeOf_0 cx hn hf) (z_k0)⟩
set_option maxRecDepth 100000 in
set_option maxHeartbeats 4000000 in
theorem s_Me_partAt_0 (cx : z_cx zTab g d p l e R s m args below meth c prog_4_method_5_code "SealedTalks$Messages" 3) (hn : meth.name = "partAt") (hf : z_fin g p l e R s m args below meth c Q prog_4_method_5_code P (some .int)) : ∀ x ∈ k_Me_partAt_0, z_sn zTab g d p l e R s m args below meth c Q 3 P x := by
  unfold k_Me_partAt_0
  refine z_k (S_iload_n cx (k := 2) (by decide +kernel) rfl) ?_
  refine z_k (S_if_lt cx (off := 12) (by decide +kernel) (by decide)) ?_
  refine z_k (S_iload_n cx (k := 2) (by decide +kernel) rfl) ?_
  refine z_k (S_aload_n cx (k := 0) (by decide +kernel) rfl) ?_
  refine z_k (S_iload_n cx (k := 1) (by decide +kernel) rfl) ?_
  refine z_k (S_callV cx (T := F_Me) (N := 3) (r := r_Me_sizeOf) rfl ⟨w_358, w_3, by decide, by decide +kernel⟩ w_355 w_356 w_357 rfl (by decide +kernel)) ?_
  refine z_k (S_icmp_lt cx (off := 5) (by decide +kernel) (by decide)) ?_
  refine z_k (S_push cx (n := 0) (by decide +kernel) (by decide)) ?_
  refine z_k (S_iret (hf.2.1 rfl) (by decide +kernel)) ?_
  refine z_k (S_aload_n cx (k := 0) (by decide +kernel) rfl) ?_
  refine z_k (S_getf cx (T := F_Me) (N := 3) (k := 1) rfl in_Me (by decide) rfl w_66 (by decide +kernel)) ?_
  refine z_k (S_iload_n cx (k := 1) (by decide +kernel) rfl) ?_
  refine z_k (S_push cx (n := 3) (by decide +kernel) (by decide)) ?_
  refine z_k (S_imul cx (by decide +kernel)) ?_
  refine z_k (S_iload_n cx (k := 2) (by decide +kernel) rfl) ?_
  refine z_k (S_iadd cx (by decide +kernel)) ?_
  refine z_k (S_iald cx (by decide +kernel)) ?_
  refine z_k (S_iret (hf.2.1 rfl) (by decide +kernel)) ?_
  exact z_k0
theorem s_Me_partAt : z_snd zTab r_Me_partAt := ⟨by decide +kernel, w_354, fun g d p l e R s m args below meth c Q P cx hn hf => z_k (s_Me_partAt_0 cx hn hf) (z_k0)⟩
set_option maxRecDepth 100000 in
set_option maxHeartbeats 4000000 in
theorem s_Me_addPart_0 (cx : z_cx zTab g d p l e R s m args below meth c prog_4_method_6_code "SealedTalks$Messages" 2) (hn : meth.name = "addPart") (hf : z_fin g p l e R s m args below meth c Q prog_4_method_6_code P none) : ∀ x ∈ k_Me_addPart_0, z_sn zTab g d p l e R s m args below meth c Q 2 P x := by
  unfold k_Me_addPart_0
  refine z_k (S_aload_n cx (k := 0) (by decide +kernel) rfl) ?_
  refine z_k (S_callV cx (T := F_Me) (N := 3) (r := r_Me_isFull) rfl ⟨w_252, w_3, by decide, by decide +kernel⟩ w_279 w_250 w_251 rfl (by decide +kernel)) ?_
  refine z_k (S_if_ne cx (off := 16) (by decide +kernel) (by decide)) ?_
  refine z_k (S_aload_n cx (k := 0) (by decide +kernel) rfl) ?_
  refine z_k (S_getf cx (T := F_Me) (N := 3) (k := 0) rfl in_Me (by decide) rfl w_65 (by decide +kernel)) ?_
  refine z_k (S_aload_n cx (k := 0) (by decide +kernel) rfl) ?_
  refine z_k (S_getf cx (T := F_Me) (N := 3) (k := 2) rfl in_Me (by decide) rfl w_67 (by decide +kernel)) ?_
  refine z_k (S_iald cx (by decide +kernel)) ?_
  refine z_k (S_push cx (n := 3) (by decide +kernel) (by decide)) ?_
  refine z_k (S_icmp_lt cx (off := 4) (by decide +kernel) (by decide)) ?_
  refine z_k (S_vret (hf.1 rfl) (by decide +kernel)) ?_
  refine z_k (S_aload_n cx (k := 0) (by decide +kernel) rfl) ?_
  refine z_k (S_getf cx (T := F_Me) (N := 3) (k := 1) rfl in_Me (by decide) rfl w_66 (by decide +kernel)) ?_
  refine z_k (S_aload_n cx (k := 0) (by decide +kernel) rfl) ?_
  refine z_k (S_getf cx (T := F_Me) (N := 3) (k := 2) rfl in_Me (by decide) rfl w_67 (by decide +kernel)) ?_
  refine z_k (S_push cx (n := 3) (by decide +kernel) (by decide)) ?_
  refine z_k (S_imul cx (by decide +kernel)) ?_
  refine z_k (S_aload_n cx (k := 0) (by decide +kernel) rfl) ?_
  refine z_k (S_getf cx (T := F_Me) (N := 3) (k := 0) rfl in_Me (by decide) rfl w_65 (by decide +kernel)) ?_
  refine z_k (S_aload_n cx (k := 0) (by decide +kernel) rfl) ?_
  refine z_k (S_getf cx (T := F_Me) (N := 3) (k := 2) rfl in_Me (by decide) rfl w_67 (by decide +kernel)) ?_
  refine z_k (S_iald cx (by decide +kernel)) ?_
  refine z_k (S_iadd cx (by decide +kernel)) ?_
  refine z_k (S_iload_n cx (k := 1) (by decide +kernel) rfl) ?_
  exact z_k0
set_option maxRecDepth 100000 in
set_option maxHeartbeats 4000000 in
theorem s_Me_addPart_1 (cx : z_cx zTab g d p l e R s m args below meth c prog_4_method_6_code "SealedTalks$Messages" 2) (hn : meth.name = "addPart") (hf : z_fin g p l e R s m args below meth c Q prog_4_method_6_code P none) : ∀ x ∈ k_Me_addPart_1, z_sn zTab g d p l e R s m args below meth c Q 2 P x := by
  unfold k_Me_addPart_1
  refine z_k (S_iast cx (by decide +kernel)) ?_
  refine z_k (S_aload_n cx (k := 0) (by decide +kernel) rfl) ?_
  refine z_k (S_getf cx (T := F_Me) (N := 3) (k := 0) rfl in_Me (by decide) rfl w_65 (by decide +kernel)) ?_
  refine z_k (S_aload_n cx (k := 0) (by decide +kernel) rfl) ?_
  refine z_k (S_getf cx (T := F_Me) (N := 3) (k := 2) rfl in_Me (by decide) rfl w_67 (by decide +kernel)) ?_
  refine z_k (S_dup2 cx (by decide +kernel)) ?_
  refine z_k (S_iald cx (by decide +kernel)) ?_
  refine z_k (S_push cx (n := 1) (by decide +kernel) (by decide)) ?_
  refine z_k (S_iadd cx (by decide +kernel)) ?_
  refine z_k (S_iast cx (by decide +kernel)) ?_
  refine z_k (S_vret (hf.1 rfl) (by decide +kernel)) ?_
  exact z_k0
theorem s_Me_addPart : z_snd zTab r_Me_addPart := ⟨by decide +kernel, w_278, fun g d p l e R s m args below meth c Q P cx hn hf => z_k (s_Me_addPart_0 cx hn hf) (z_k (s_Me_addPart_1 cx hn hf) (z_k0))⟩
set_option maxRecDepth 100000 in
set_option maxHeartbeats 4000000 in
theorem s_Me_finish_0 (cx : z_cx zTab g d p l e R s m args below meth c prog_4_method_7_code "SealedTalks$Messages" 1) (hn : meth.name = "finish") (hf : z_fin g p l e R s m args below meth c Q prog_4_method_7_code P (some .int)) : ∀ x ∈ k_Me_finish_0, z_sn zTab g d p l e R s m args below meth c Q 1 P x := by
  unfold k_Me_finish_0
  refine z_k (S_aload_n cx (k := 0) (by decide +kernel) rfl) ?_
  refine z_k (S_dup cx (by decide +kernel)) ?_
  refine z_k (S_getf cx (T := F_Me) (N := 3) (k := 2) rfl in_Me (by decide) rfl w_67 (by decide +kernel)) ?_
  refine z_k (S_push cx (n := 1) (by decide +kernel) (by decide)) ?_
  refine z_k (S_iadd cx (by decide +kernel)) ?_
  refine z_k (S_putf cx (T := F_Me) (N := 3) (k := 2) (ty := t_Me) rfl in_Me t_Me_ok n_Me (by decide) rfl w_67 rfl (Or.inl ⟨rfl, rfl⟩) (by decide +kernel)) ?_
  refine z_k (S_aload_n cx (k := 0) (by decide +kernel) rfl) ?_
  refine z_k (S_getf cx (T := F_Me) (N := 3) (k := 2) rfl in_Me (by decide) rfl w_67 (by decide +kernel)) ?_
  refine z_k (S_push cx (n := 1) (by decide +kernel) (by decide)) ?_
  refine z_k (S_isub cx (by decide +kernel)) ?_
  refine z_k (S_iret (hf.2.1 rfl) (by decide +kernel)) ?_
  exact z_k0
theorem s_Me_finish : z_snd zTab r_Me_finish := ⟨by decide +kernel, w_326, fun g d p l e R s m args below meth c Q P cx hn hf => z_k (s_Me_finish_0 cx hn hf) (z_k0)⟩
set_option maxRecDepth 100000 in
set_option maxHeartbeats 4000000 in
theorem s_Se_init_0 (cx : z_cx zTab g d p l e R s m args below meth c prog_5_method_1_code "SealedTalks$Session" 2) (hn : meth.name = "<init>") (hf : z_fin g p l e R s m args below meth c Q prog_5_method_1_code P none) : ∀ x ∈ k_Se_init_0, z_sn zTab g d p l e R s m args below meth c Q 2 P x := by
  unfold k_Se_init_0
  refine z_k (S_aload_n cx (k := 0) (by decide +kernel) rfl) ?_
  refine z_k (S_oini cx w_101 w_15 w_16 (by decide +kernel)) ?_
  refine z_k (S_aload_n cx (k := 0) (by decide +kernel) rfl) ?_
  refine z_k (S_push cx (n := 0) (by decide +kernel) (by decide)) ?_
  refine z_k (S_putf cx (T := F_Se) (N := 8) (k := 4) (ty := t_Se) rfl in_Se t_Se_ok n_Se (by decide) rfl w_182 rfl (Or.inr (Or.inl ⟨rfl, rfl⟩)) (by decide +kernel)) ?_
  refine z_k (S_aload_n cx (k := 0) (by decide +kernel) rfl) ?_
  refine z_k (S_push cx (n := 0) (by decide +kernel) (by decide)) ?_
  refine z_k (S_putf cx (T := F_Se) (N := 8) (k := 5) (ty := t_Se) rfl in_Se t_Se_ok n_Se (by decide) rfl w_184 rfl (Or.inl ⟨rfl, rfl⟩) (by decide +kernel)) ?_
  refine z_k (S_aload_n cx (k := 0) (by decide +kernel) rfl) ?_
  refine z_k (S_push cx (n := 0) (by decide +kernel) (by decide)) ?_
  refine z_k (S_putf cx (T := F_Se) (N := 8) (k := 6) (ty := t_Se) rfl in_Se t_Se_ok n_Se (by decide) rfl w_185 rfl (Or.inl ⟨rfl, rfl⟩) (by decide +kernel)) ?_
  refine z_k (S_aload_n cx (k := 0) (by decide +kernel) rfl) ?_
  refine z_k (S_push cx (n := 0) (by decide +kernel) (by decide)) ?_
  refine z_k (S_putf cx (T := F_Se) (N := 8) (k := 7) (ty := t_Se) rfl in_Se t_Se_ok n_Se (by decide) rfl w_187 rfl (Or.inl ⟨rfl, rfl⟩) (by decide +kernel)) ?_
  refine z_k (S_aload_n cx (k := 0) (by decide +kernel) rfl) ?_
  refine z_k (S_aload_n cx (k := 1) (by decide +kernel) rfl) ?_
  refine z_k (S_putF cx (T := F_Se) (N := 8) (k := 0) (ty := t_Se) rfl in_Se t_Se_ok n_Se (by decide) rfl w_176 rfl hn rfl (Or.inr (Or.inr ⟨rfl, Or.inl ⟨_, rfl⟩⟩)) (by decide +kernel)) ?_
  refine z_k (S_aload_n cx (k := 0) (by decide +kernel) rfl) ?_
  refine z_k (S_new cx (T := F_Ch) (ty := t_Ch) rfl in_Ch t_Ch_ok w_102 w_103 w_6 fs_Ch (by decide +kernel)) ?_
  refine z_k (S_dup cx (by decide +kernel)) ?_
  refine z_k (S_aload_n cx (k := 1) (by decide +kernel) rfl) ?_
  refine z_k (S_callI cx (r := r_Ch_init) rfl ⟨w_106, w_6, by decide, by decide +kernel⟩ w_104 w_105 rfl rfl (by decide +kernel)) ?_
  refine z_k (S_putF cx (T := F_Se) (N := 8) (k := 1) (ty := t_Se) rfl in_Se t_Se_ok n_Se (by decide) rfl w_177 rfl hn rfl (Or.inr (Or.inr ⟨rfl, Or.inl ⟨_, rfl⟩⟩)) (by decide +kernel)) ?_
  refine z_k (S_aload_n cx (k := 0) (by decide +kernel) rfl) ?_
  exact z_k0
set_option maxRecDepth 100000 in
set_option maxHeartbeats 4000000 in
theorem s_Se_init_1 (cx : z_cx zTab g d p l e R s m args below meth c prog_5_method_1_code "SealedTalks$Session" 2) (hn : meth.name = "<init>") (hf : z_fin g p l e R s m args below meth c Q prog_5_method_1_code P none) : ∀ x ∈ k_Se_init_1, z_sn zTab g d p l e R s m args below meth c Q 2 P x := by
  unfold k_Se_init_1
  refine z_k (S_new cx (T := F_Ag) (ty := t_Ag) rfl in_Ag t_Ag_ok w_129 w_130 w_7 fs_Ag (by decide +kernel)) ?_
  refine z_k (S_dup cx (by decide +kernel)) ?_
  refine z_k (S_aload_n cx (k := 1) (by decide +kernel) rfl) ?_
  refine z_k (S_callI cx (r := r_Ag_init) rfl ⟨w_133, w_7, by decide, by decide +kernel⟩ w_131 w_132 rfl rfl (by decide +kernel)) ?_
  refine z_k (S_putF cx (T := F_Se) (N := 8) (k := 2) (ty := t_Se) rfl in_Se t_Se_ok n_Se (by decide) rfl w_179 rfl hn rfl (Or.inr (Or.inr ⟨rfl, Or.inl ⟨_, rfl⟩⟩)) (by decide +kernel)) ?_
  refine z_k (S_aload_n cx (k := 0) (by decide +kernel) rfl) ?_
  refine z_k (S_new cx (T := F_Ag) (ty := t_Ag) rfl in_Ag t_Ag_ok w_129 w_130 w_7 fs_Ag (by decide +kernel)) ?_
  refine z_k (S_dup cx (by decide +kernel)) ?_
  refine z_k (S_aload_n cx (k := 1) (by decide +kernel) rfl) ?_
  refine z_k (S_callI cx (r := r_Ag_init) rfl ⟨w_133, w_7, by decide, by decide +kernel⟩ w_131 w_132 rfl rfl (by decide +kernel)) ?_
  refine z_k (S_putF cx (T := F_Se) (N := 8) (k := 3) (ty := t_Se) rfl in_Se t_Se_ok n_Se (by decide) rfl w_181 rfl hn rfl (Or.inr (Or.inr ⟨rfl, Or.inl ⟨_, rfl⟩⟩)) (by decide +kernel)) ?_
  refine z_k (S_vret (hf.1 rfl) (by decide +kernel)) ?_
  exact z_k0
theorem s_Se_init : z_snd zTab r_Se_init := ⟨by decide +kernel, w_100, fun g d p l e R s m args below meth c Q P cx hn hf => z_k (s_Se_init_0 cx hn hf) (z_k (s_Se_init_1 cx hn hf) (z_k0))⟩
set_option maxRecDepth 100000 in
set_option maxHeartbeats 4000000 in
theorem s_Se_writeNext_0 (cx : z_cx zTab g d p l e R s m args below meth c prog_5_method_2_code "SealedTalks$Session" 3) (hn : meth.name = "writeNext") (hf : z_fin g p l e R s m args below meth c Q prog_5_method_2_code P none) : ∀ x ∈ k_Se_writeNext_0, z_sn zTab g d p l e R s m args below meth c Q 3 P x := by
  unfold k_Se_writeNext_0
  refine z_k (S_aload_n cx (k := 0) (by decide +kernel) rfl) ?_
  refine z_k (S_getf cx (T := F_Se) (N := 8) (k := 2) rfl in_Se (by decide) rfl w_179 (by decide +kernel)) ?_
  refine z_k (S_aload_n cx (k := 1) (by decide +kernel) rfl) ?_
  refine z_k (S_iload_n cx (k := 2) (by decide +kernel) rfl) ?_
  refine z_k (S_callV cx (T := F_Ag) (N := 12) (r := r_Ag_writeNext) rfl ⟨w_260, w_7, by decide, by decide +kernel⟩ w_257 w_258 w_259 rfl (by decide +kernel)) ?_
  refine z_k (S_aload_n cx (k := 0) (by decide +kernel) rfl) ?_
  refine z_k (S_callV cx (T := F_Se) (N := 8) (r := r_Se_endAgreement) rfl ⟨w_313, w_5, by decide, by decide +kernel⟩ w_310 w_312 wp_7 rfl (by decide +kernel)) ?_
  refine z_k (S_vret (hf.1 rfl) (by decide +kernel)) ?_
  exact z_k0
theorem s_Se_writeNext : z_snd zTab r_Se_writeNext := ⟨by decide +kernel, w_256, fun g d p l e R s m args below meth c Q P cx hn hf => z_k (s_Se_writeNext_0 cx hn hf) (z_k0)⟩
set_option maxRecDepth 100000 in
set_option maxHeartbeats 4000000 in
theorem s_Se_readNext_0 (cx : z_cx zTab g d p l e R s m args below meth c prog_5_method_3_code "SealedTalks$Session" 5) (hn : meth.name = "readNext") (hf : z_fin g p l e R s m args below meth c Q prog_5_method_3_code P (some .int)) : ∀ x ∈ k_Se_readNext_0, z_sn zTab g d p l e R s m args below meth c Q 5 P x := by
  unfold k_Se_readNext_0
  refine z_k (S_aload_n cx (k := 0) (by decide +kernel) rfl) ?_
  refine z_k (S_getf cx (T := F_Se) (N := 8) (k := 2) rfl in_Se (by decide) rfl w_179 (by decide +kernel)) ?_
  refine z_k (S_callV cx (T := F_Ag) (N := 12) (r := r_Ag_isOwnTurn) rfl ⟨w_244, w_7, by decide, by decide +kernel⟩ w_390 w_242 w_243 rfl (by decide +kernel)) ?_
  refine z_k (S_if_eq cx (off := 5) (by decide +kernel) (by decide)) ?_
  refine z_k (S_push cx (n := 0) (by decide +kernel) (by decide)) ?_
  refine z_k (S_iret (hf.2.1 rfl) (by decide +kernel)) ?_
  refine z_k (S_aload_n cx (k := 0) (by decide +kernel) rfl) ?_
  refine z_k (S_getf cx (T := F_Se) (N := 8) (k := 0) rfl in_Se (by decide) rfl w_176 (by decide +kernel)) ?_
  refine z_k (S_callV cx (T := F_Te) (N := 11) (r := r_Te_newest) rfl ⟨w_394, w_2, by decide, by decide +kernel⟩ w_391 w_392 w_393 rfl (by decide +kernel)) ?_
  refine z_k (S_istore_n cx (by decide) (k := 3) (by decide +kernel) rfl) ?_
  refine z_k (S_aload_n cx (k := 0) (by decide +kernel) rfl) ?_
  refine z_k (S_getf cx (T := F_Se) (N := 8) (k := 3) rfl in_Se (by decide) rfl w_181 (by decide +kernel)) ?_
  refine z_k (S_aload_n cx (k := 0) (by decide +kernel) rfl) ?_
  refine z_k (S_getf cx (T := F_Se) (N := 8) (k := 2) rfl in_Se (by decide) rfl w_179 (by decide +kernel)) ?_
  refine z_k (S_callV cx (T := F_Ag) (N := 12) (r := r_Ag_copyFrom) rfl ⟨w_398, w_7, by decide, by decide +kernel⟩ w_395 w_396 w_397 rfl (by decide +kernel)) ?_
  refine z_k (S_aload_n cx (k := 0) (by decide +kernel) rfl) ?_
  refine z_k (S_getf cx (T := F_Se) (N := 8) (k := 3) rfl in_Se (by decide) rfl w_181 (by decide +kernel)) ?_
  refine z_k (S_aload_n cx (k := 1) (by decide +kernel) rfl) ?_
  refine z_k (S_iload_n cx (k := 2) (by decide +kernel) rfl) ?_
  refine z_k (S_callV cx (T := F_Ag) (N := 12) (r := r_Ag_readNext) rfl ⟨w_402, w_7, by decide, by decide +kernel⟩ w_399 w_400 w_401 rfl (by decide +kernel)) ?_
  refine z_k (S_istore cx (by decide) (by decide +kernel)) ?_
  refine z_k (S_iload cx (by decide +kernel)) ?_
  refine z_k (S_if_ne cx (off := 13) (by decide +kernel) (by decide)) ?_
  refine z_k (S_aload_n cx (k := 0) (by decide +kernel) rfl) ?_
  exact z_k0
set_option maxRecDepth 100000 in
set_option maxHeartbeats 4000000 in
theorem s_Se_readNext_1 (cx : z_cx zTab g d p l e R s m args below meth c prog_5_method_3_code "SealedTalks$Session" 5) (hn : meth.name = "readNext") (hf : z_fin g p l e R s m args below meth c Q prog_5_method_3_code P (some .int)) : ∀ x ∈ k_Se_readNext_1, z_sn zTab g d p l e R s m args below meth c Q 5 P x := by
  unfold k_Se_readNext_1
  refine z_k (S_getf cx (T := F_Se) (N := 8) (k := 0) rfl in_Se (by decide) rfl w_176 (by decide +kernel)) ?_
  refine z_k (S_iload_n cx (k := 3) (by decide +kernel) rfl) ?_
  refine z_k (S_callV cx (T := F_Te) (N := 11) (r := r_Te_dropBehind) rfl ⟨w_428, w_2, by decide, by decide +kernel⟩ w_425 w_426 w_427 rfl (by decide +kernel)) ?_
  refine z_k (S_push cx (n := 0) (by decide +kernel) (by decide)) ?_
  refine z_k (S_iret (hf.2.1 rfl) (by decide +kernel)) ?_
  refine z_k (S_aload_n cx (k := 0) (by decide +kernel) rfl) ?_
  refine z_k (S_getf cx (T := F_Se) (N := 8) (k := 2) rfl in_Se (by decide) rfl w_179 (by decide +kernel)) ?_
  refine z_k (S_aload_n cx (k := 0) (by decide +kernel) rfl) ?_
  refine z_k (S_getf cx (T := F_Se) (N := 8) (k := 3) rfl in_Se (by decide) rfl w_181 (by decide +kernel)) ?_
  refine z_k (S_callV cx (T := F_Ag) (N := 12) (r := r_Ag_copyFrom) rfl ⟨w_398, w_7, by decide, by decide +kernel⟩ w_395 w_396 w_397 rfl (by decide +kernel)) ?_
  refine z_k (S_aload_n cx (k := 0) (by decide +kernel) rfl) ?_
  refine z_k (S_callV cx (T := F_Se) (N := 8) (r := r_Se_endAgreement) rfl ⟨w_313, w_5, by decide, by decide +kernel⟩ w_310 w_312 wp_7 rfl (by decide +kernel)) ?_
  refine z_k (S_iload cx (by decide +kernel)) ?_
  refine z_k (S_iret (hf.2.1 rfl) (by decide +kernel)) ?_
  exact z_k0
theorem s_Se_readNext : z_snd zTab r_Se_readNext := ⟨by decide +kernel, w_389, fun g d p l e R s m args below meth c Q P cx hn hf => z_k (s_Se_readNext_0 cx hn hf) (z_k (s_Se_readNext_1 cx hn hf) (z_k0))⟩
set_option maxRecDepth 100000 in
set_option maxHeartbeats 4000000 in
theorem s_Se_notePayload_0 (cx : z_cx zTab g d p l e R s m args below meth c prog_5_method_4_code "SealedTalks$Session" 2) (hn : meth.name = "notePayload") (hf : z_fin g p l e R s m args below meth c Q prog_5_method_4_code P none) : ∀ x ∈ k_Se_notePayload_0, z_sn zTab g d p l e R s m args below meth c Q 2 P x := by
  unfold k_Se_notePayload_0
  refine z_k (S_aload_n cx (k := 0) (by decide +kernel) rfl) ?_
  refine z_k (S_iload_n cx (k := 1) (by decide +kernel) rfl) ?_
  refine z_k (S_putf cx (T := F_Se) (N := 8) (k := 6) (ty := t_Se) rfl in_Se t_Se_ok n_Se (by decide) rfl w_185 rfl (Or.inl ⟨rfl, rfl⟩) (by decide +kernel)) ?_
  refine z_k (S_aload_n cx (k := 0) (by decide +kernel) rfl) ?_
  refine z_k (S_dup cx (by decide +kernel)) ?_
  refine z_k (S_getf cx (T := F_Se) (N := 8) (k := 7) rfl in_Se (by decide) rfl w_187 (by decide +kernel)) ?_
  refine z_k (S_push cx (n := 1) (by decide +kernel) (by decide)) ?_
  refine z_k (S_iadd cx (by decide +kernel)) ?_
  refine z_k (S_putf cx (T := F_Se) (N := 8) (k := 7) (ty := t_Se) rfl in_Se t_Se_ok n_Se (by decide) rfl w_187 rfl (Or.inl ⟨rfl, rfl⟩) (by decide +kernel)) ?_
  refine z_k (S_vret (hf.1 rfl) (by decide +kernel)) ?_
  exact z_k0
theorem s_Se_notePayload : z_snd zTab r_Se_notePayload := ⟨by decide +kernel, w_433, fun g d p l e R s m args below meth c Q P cx hn hf => z_k (s_Se_notePayload_0 cx hn hf) (z_k0)⟩
set_option maxRecDepth 100000 in
set_option maxHeartbeats 4000000 in
theorem s_Se_passTick_0 (cx : z_cx zTab g d p l e R s m args below meth c prog_5_method_5_code "SealedTalks$Session" 1) (hn : meth.name = "passTick") (hf : z_fin g p l e R s m args below meth c Q prog_5_method_5_code P (some .boolean)) : ∀ x ∈ k_Se_passTick_0, z_sn zTab g d p l e R s m args below meth c Q 1 P x := by
  unfold k_Se_passTick_0
  refine z_k (S_aload_n cx (k := 0) (by decide +kernel) rfl) ?_
  refine z_k (S_getf cx (T := F_Se) (N := 8) (k := 4) rfl in_Se (by decide) rfl w_182 (by decide +kernel)) ?_
  refine z_k (S_if_eq cx (off := 5) (by decide +kernel) (by decide)) ?_
  refine z_k (S_push cx (n := 0) (by decide +kernel) (by decide)) ?_
  refine z_k (S_zret (hf.2.2.1 rfl) (by decide +kernel)) ?_
  refine z_k (S_aload_n cx (k := 0) (by decide +kernel) rfl) ?_
  refine z_k (S_dup cx (by decide +kernel)) ?_
  refine z_k (S_getf cx (T := F_Se) (N := 8) (k := 5) rfl in_Se (by decide) rfl w_184 (by decide +kernel)) ?_
  refine z_k (S_push cx (n := 1) (by decide +kernel) (by decide)) ?_
  refine z_k (S_iadd cx (by decide +kernel)) ?_
  refine z_k (S_putf cx (T := F_Se) (N := 8) (k := 5) (ty := t_Se) rfl in_Se t_Se_ok n_Se (by decide) rfl w_184 rfl (Or.inl ⟨rfl, rfl⟩) (by decide +kernel)) ?_
  refine z_k (S_aload_n cx (k := 0) (by decide +kernel) rfl) ?_
  refine z_k (S_aload_n cx (k := 0) (by decide +kernel) rfl) ?_
  refine z_k (S_getf cx (T := F_Se) (N := 8) (k := 5) rfl in_Se (by decide) rfl w_184 (by decide +kernel)) ?_
  refine z_k (S_aload_n cx (k := 0) (by decide +kernel) rfl) ?_
  refine z_k (S_getf cx (T := F_Se) (N := 8) (k := 2) rfl in_Se (by decide) rfl w_179 (by decide +kernel)) ?_
  refine z_k (S_callV cx (T := F_Ag) (N := 12) (r := r_Ag_isDone) rfl ⟨w_248, w_7, by decide, by decide +kernel⟩ w_314 w_246 w_247 rfl (by decide +kernel)) ?_
  refine z_k (S_if_eq cx (off := 8) (by decide +kernel) (by decide)) ?_
  refine z_k (S_bipush cx (n := 30) (by decide +kernel) (by decide)) ?_
  refine z_k (S_goto cx (off := 5) (by decide +kernel) (by decide)) ?_
  refine z_k (S_bipush cx (n := 6) (by decide +kernel) (by decide)) ?_
  refine z_k (S_icmp_lt cx (off := 7) (by decide +kernel) (by decide)) ?_
  refine z_k (S_push cx (n := 1) (by decide +kernel) (by decide)) ?_
  refine z_k (S_goto cx (off := 4) (by decide +kernel) (by decide)) ?_
  exact z_k0
set_option maxRecDepth 100000 in
set_option maxHeartbeats 4000000 in
theorem s_Se_passTick_1 (cx : z_cx zTab g d p l e R s m args below meth c prog_5_method_5_code "SealedTalks$Session" 1) (hn : meth.name = "passTick") (hf : z_fin g p l e R s m args below meth c Q prog_5_method_5_code P (some .boolean)) : ∀ x ∈ k_Se_passTick_1, z_sn zTab g d p l e R s m args below meth c Q 1 P x := by
  unfold k_Se_passTick_1
  refine z_k (S_push cx (n := 0) (by decide +kernel) (by decide)) ?_
  refine z_k (S_putf cx (T := F_Se) (N := 8) (k := 4) (ty := t_Se) rfl in_Se t_Se_ok n_Se (by decide) rfl w_182 rfl (Or.inr (Or.inl ⟨rfl, rfl⟩)) (by decide +kernel)) ?_
  refine z_k (S_aload_n cx (k := 0) (by decide +kernel) rfl) ?_
  refine z_k (S_getf cx (T := F_Se) (N := 8) (k := 4) rfl in_Se (by decide) rfl w_182 (by decide +kernel)) ?_
  refine z_k (S_zret (hf.2.2.1 rfl) (by decide +kernel)) ?_
  exact z_k0
theorem s_Se_passTick : z_snd zTab r_Se_passTick := ⟨by decide +kernel, w_465, fun g d p l e R s m args below meth c Q P cx hn hf => z_k (s_Se_passTick_0 cx hn hf) (z_k (s_Se_passTick_1 cx hn hf) (z_k0))⟩
set_option maxRecDepth 100000 in
set_option maxHeartbeats 4000000 in
theorem s_Se_endAgreement_0 (cx : z_cx zTab g d p l e R s m args below meth c prog_5_method_6_code "SealedTalks$Session" 1) (hn : meth.name = "endAgreement") (hf : z_fin g p l e R s m args below meth c Q prog_5_method_6_code P none) : ∀ x ∈ k_Se_endAgreement_0, z_sn zTab g d p l e R s m args below meth c Q 1 P x := by
  unfold k_Se_endAgreement_0
  refine z_k (S_aload_n cx (k := 0) (by decide +kernel) rfl) ?_
  refine z_k (S_getf cx (T := F_Se) (N := 8) (k := 2) rfl in_Se (by decide) rfl w_179 (by decide +kernel)) ?_
  refine z_k (S_callV cx (T := F_Ag) (N := 12) (r := r_Ag_isDone) rfl ⟨w_248, w_7, by decide, by decide +kernel⟩ w_314 w_246 w_247 rfl (by decide +kernel)) ?_
  refine z_k (S_if_eq cx (off := 29) (by decide +kernel) (by decide)) ?_
  refine z_k (S_aload_n cx (k := 0) (by decide +kernel) rfl) ?_
  refine z_k (S_getf cx (T := F_Se) (N := 8) (k := 1) rfl in_Se (by decide) rfl w_177 (by decide +kernel)) ?_
  refine z_k (S_aload_n cx (k := 0) (by decide +kernel) rfl) ?_
  refine z_k (S_getf cx (T := F_Se) (N := 8) (k := 2) rfl in_Se (by decide) rfl w_179 (by decide +kernel)) ?_
  refine z_k (S_getfN cx (T := F_Ag) (N := 12) (k := 8) rfl in_Ag (by decide) rfl w_146 (by decide +kernel)) ?_
  refine z_k (S_aload_n cx (k := 0) (by decide +kernel) rfl) ?_
  refine z_k (S_getf cx (T := F_Se) (N := 8) (k := 2) rfl in_Se (by decide) rfl w_179 (by decide +kernel)) ?_
  refine z_k (S_getfN cx (T := F_Ag) (N := 12) (k := 2) rfl in_Ag (by decide) rfl w_138 (by decide +kernel)) ?_
  refine z_k (S_callV cx (T := F_Ch) (N := 6) (r := r_Ch_setKeys) rfl ⟨w_318, w_6, by decide, by decide +kernel⟩ w_315 w_316 w_317 rfl (by decide +kernel)) ?_
  refine z_k (S_aload_n cx (k := 0) (by decide +kernel) rfl) ?_
  refine z_k (S_push cx (n := 0) (by decide +kernel) (by decide)) ?_
  refine z_k (S_putf cx (T := F_Se) (N := 8) (k := 5) (ty := t_Se) rfl in_Se t_Se_ok n_Se (by decide) rfl w_184 rfl (Or.inl ⟨rfl, rfl⟩) (by decide +kernel)) ?_
  refine z_k (S_vret (hf.1 rfl) (by decide +kernel)) ?_
  exact z_k0
theorem s_Se_endAgreement : z_snd zTab r_Se_endAgreement := ⟨by decide +kernel, w_313, fun g d p l e R s m args below meth c Q P cx hn hf => z_k (s_Se_endAgreement_0 cx hn hf) (z_k0)⟩
end ZR10
