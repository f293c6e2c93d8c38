/-! Each method of SealedTalksModel is sound (1). By program. -/
section ZR41
variable {g : zG} {d : Nat} {p : Program} {l : Launch} {e : Env} {R : Room} {s : State} {m : MethodId} {args : Array Value} {below : List Frame} {meth : Method} {c : Code} {Q : State → Prop} {P : zP}
set_option maxRecDepth 100000 in
set_option maxHeartbeats 4000000 in
theorem s_Mo_mixHash_0 (cx : z_cx zTab g d p l e R s m args below meth c prog_8_method_12_code "SealedTalksModel" 2) (hn : meth.name = "mixHash") (hf : z_fin g p l e R s m args below meth c Q prog_8_method_12_code P none) : ∀ x ∈ k_Mo_mixHash_0, z_sn zTab g d p l e R s m args below meth c Q 2 P x := by
  unfold k_Mo_mixHash_0
  refine z_k (S_aload_n cx (k := 0) (by decide +kernel) rfl) ?_
  refine z_k (S_aload_n cx (k := 0) (by decide +kernel) rfl) ?_
  refine z_k (S_push cx (n := 4) (by decide +kernel) (by decide)) ?_
  refine z_k (S_aload_n cx (k := 0) (by decide +kernel) rfl) ?_
  refine z_k (S_getf cx (T := F_Mo) (N := 43) (k := 32) rfl in_Mo (by decide) rfl w_560 (by decide +kernel)) ?_
  refine z_k (S_iload_n cx (k := 1) (by decide +kernel) rfl) ?_
  refine z_k (S_callV cx (T := F_Mo) (N := 43) (r := r_Mo_two) rfl ⟨w_678, w_4, by decide, by decide +kernel⟩ w_675 w_677 wp_15 rfl (by decide +kernel)) ?_
  refine z_k (S_putf cx (T := F_Mo) (N := 43) (k := 32) (ty := t_Mo) rfl in_Mo t_Mo_ok n_Mo (by decide) rfl w_560 rfl (Or.inl ⟨rfl, rfl⟩) (by decide +kernel)) ?_
  refine z_k (S_vret (hf.1 rfl) (by decide +kernel)) ?_
  exact z_k0
theorem s_Mo_mixHash : z_snd zTab r_Mo_mixHash := ⟨by decide +kernel, w_716, fun g d p l e R s m args below meth c Q P cx hn hf => z_k (s_Mo_mixHash_0 cx hn hf) (z_k0)⟩
set_option maxRecDepth 100000 in
set_option maxHeartbeats 4000000 in
theorem s_Mo_agree_0 (cx : z_cx zTab g d p l e R s m args below meth c prog_8_method_13_code "SealedTalksModel" 11) (hn : meth.name = "agree") (hf : z_fin g p l e R s m args below meth c Q prog_8_method_13_code P none) : ∀ x ∈ k_Mo_agree_0, z_sn zTab g d p l e R s m args below meth c Q 11 P x := by
  unfold k_Mo_agree_0
  refine z_k (S_aload_n cx (k := 0) (by decide +kernel) rfl) ?_
  refine z_k (S_getf cx (T := F_Mo) (N := 43) (k := 14) rfl in_Mo (by decide) rfl w_542 (by decide +kernel)) ?_
  refine z_k (S_aload_n cx (k := 0) (by decide +kernel) rfl) ?_
  refine z_k (S_getf cx (T := F_Mo) (N := 43) (k := 31) rfl in_Mo (by decide) rfl w_559 (by decide +kernel)) ?_
  refine z_k (S_zald cx (by decide +kernel)) ?_
  refine z_k (S_istore_n cx (by decide) (k := 2) (by decide +kernel) rfl) ?_
  refine z_k (S_iload_n cx (k := 2) (by decide +kernel) rfl) ?_
  refine z_k (S_if_eq cx (off := 10) (by decide +kernel) (by decide)) ?_
  refine z_k (S_aload_n cx (k := 0) (by decide +kernel) rfl) ?_
  refine z_k (S_getf cx (T := F_Mo) (N := 43) (k := 36) rfl in_Mo (by decide) rfl w_564 (by decide +kernel)) ?_
  refine z_k (S_goto cx (off := 7) (by decide +kernel) (by decide)) ?_
  refine z_k (S_aload_n cx (k := 0) (by decide +kernel) rfl) ?_
  refine z_k (S_getf cx (T := F_Mo) (N := 43) (k := 37) rfl in_Mo (by decide) rfl w_565 (by decide +kernel)) ?_
  refine z_k (S_istore_n cx (by decide) (k := 3) (by decide +kernel) rfl) ?_
  refine z_k (S_iload_n cx (k := 2) (by decide +kernel) rfl) ?_
  refine z_k (S_if_eq cx (off := 15) (by decide +kernel) (by decide)) ?_
  refine z_k (S_aload_n cx (k := 0) (by decide +kernel) rfl) ?_
  refine z_k (S_getf cx (T := F_Mo) (N := 43) (k := 15) rfl in_Mo (by decide) rfl w_543 (by decide +kernel)) ?_
  refine z_k (S_aload_n cx (k := 0) (by decide +kernel) rfl) ?_
  refine z_k (S_getf cx (T := F_Mo) (N := 43) (k := 31) rfl in_Mo (by decide) rfl w_559 (by decide +kernel)) ?_
  refine z_k (S_iald cx (by decide +kernel)) ?_
  refine z_k (S_goto cx (off := 7) (by decide +kernel) (by decide)) ?_
  refine z_k (S_aload_n cx (k := 0) (by decide +kernel) rfl) ?_
  refine z_k (S_getf cx (T := F_Mo) (N := 43) (k := 38) rfl in_Mo (by decide) rfl w_566 (by decide +kernel)) ?_
  exact z_k0
set_option maxRecDepth 100000 in
set_option maxHeartbeats 4000000 in
theorem s_Mo_agree_1 (cx : z_cx zTab g d p l e R s m args below meth c prog_8_method_13_code "SealedTalksModel" 11) (hn : meth.name = "agree") (hf : z_fin g p l e R s m args below meth c Q prog_8_method_13_code P none) : ∀ x ∈ k_Mo_agree_1, z_sn zTab g d p l e R s m args below meth c Q 11 P x := by
  unfold k_Mo_agree_1
  refine z_k (S_istore cx (by decide) (by decide +kernel)) ?_
  refine z_k (S_iload_n cx (k := 2) (by decide +kernel) rfl) ?_
  refine z_k (S_if_eq cx (off := 10) (by decide +kernel) (by decide)) ?_
  refine z_k (S_aload_n cx (k := 0) (by decide +kernel) rfl) ?_
  refine z_k (S_getf cx (T := F_Mo) (N := 43) (k := 37) rfl in_Mo (by decide) rfl w_565 (by decide +kernel)) ?_
  refine z_k (S_goto cx (off := 7) (by decide +kernel) (by decide)) ?_
  refine z_k (S_aload_n cx (k := 0) (by decide +kernel) rfl) ?_
  refine z_k (S_getf cx (T := F_Mo) (N := 43) (k := 36) rfl in_Mo (by decide) rfl w_564 (by decide +kernel)) ?_
  refine z_k (S_istore cx (by decide) (by decide +kernel)) ?_
  refine z_k (S_iload_n cx (k := 2) (by decide +kernel) rfl) ?_
  refine z_k (S_if_eq cx (off := 10) (by decide +kernel) (by decide)) ?_
  refine z_k (S_aload_n cx (k := 0) (by decide +kernel) rfl) ?_
  refine z_k (S_getf cx (T := F_Mo) (N := 43) (k := 38) rfl in_Mo (by decide) rfl w_566 (by decide +kernel)) ?_
  refine z_k (S_goto cx (off := 12) (by decide +kernel) (by decide)) ?_
  refine z_k (S_aload_n cx (k := 0) (by decide +kernel) rfl) ?_
  refine z_k (S_getf cx (T := F_Mo) (N := 43) (k := 15) rfl in_Mo (by decide) rfl w_543 (by decide +kernel)) ?_
  refine z_k (S_aload_n cx (k := 0) (by decide +kernel) rfl) ?_
  refine z_k (S_getf cx (T := F_Mo) (N := 43) (k := 31) rfl in_Mo (by decide) rfl w_559 (by decide +kernel)) ?_
  refine z_k (S_iald cx (by decide +kernel)) ?_
  refine z_k (S_istore cx (by decide) (by decide +kernel)) ?_
  refine z_k (S_iload_n cx (k := 1) (by decide +kernel) rfl) ?_
  refine z_k (S_push cx (n := 3) (by decide +kernel) (by decide)) ?_
  refine z_k (S_icmp_eq cx (off := 8) (by decide +kernel) (by decide)) ?_
  refine z_k (S_iload_n cx (k := 1) (by decide +kernel) rfl) ?_
  exact z_k0
set_option maxRecDepth 100000 in
set_option maxHeartbeats 4000000 in
theorem s_Mo_agree_2 (cx : z_cx zTab g d p l e R s m args below meth c prog_8_method_13_code "SealedTalksModel" 11) (hn : meth.name = "agree") (hf : z_fin g p l e R s m args below meth c Q prog_8_method_13_code P none) : ∀ x ∈ k_Mo_agree_2, z_sn zTab g d p l e R s m args below meth c Q 11 P x := by
  unfold k_Mo_agree_2
  refine z_k (S_push cx (n := 4) (by decide +kernel) (by decide)) ?_
  refine z_k (S_icmp_ne cx (off := 7) (by decide +kernel) (by decide)) ?_
  refine z_k (S_iload_n cx (k := 3) (by decide +kernel) rfl) ?_
  refine z_k (S_goto cx (off := 5) (by decide +kernel) (by decide)) ?_
  refine z_k (S_iload cx (by decide +kernel)) ?_
  refine z_k (S_istore cx (by decide) (by decide +kernel)) ?_
  refine z_k (S_iload_n cx (k := 1) (by decide +kernel) rfl) ?_
  refine z_k (S_push cx (n := 3) (by decide +kernel) (by decide)) ?_
  refine z_k (S_icmp_eq cx (off := 8) (by decide +kernel) (by decide)) ?_
  refine z_k (S_iload_n cx (k := 1) (by decide +kernel) rfl) ?_
  refine z_k (S_push cx (n := 5) (by decide +kernel) (by decide)) ?_
  refine z_k (S_icmp_ne cx (off := 8) (by decide +kernel) (by decide)) ?_
  refine z_k (S_iload cx (by decide +kernel)) ?_
  refine z_k (S_goto cx (off := 5) (by decide +kernel) (by decide)) ?_
  refine z_k (S_iload cx (by decide +kernel)) ?_
  refine z_k (S_istore cx (by decide) (by decide +kernel)) ?_
  refine z_k (S_aload_n cx (k := 0) (by decide +kernel) rfl) ?_
  refine z_k (S_push cx (n := 3) (by decide +kernel) (by decide)) ?_
  refine z_k (S_iload cx (by decide +kernel)) ?_
  refine z_k (S_iload cx (by decide +kernel)) ?_
  refine z_k (S_icmp_ge cx (off := 15) (by decide +kernel) (by decide)) ?_
  refine z_k (S_sipush cx (n := 256) (by decide +kernel) (by decide)) ?_
  refine z_k (S_iload cx (by decide +kernel)) ?_
  refine z_k (S_imul cx (by decide +kernel)) ?_
  exact z_k0
set_option maxRecDepth 100000 in
set_option maxHeartbeats 4000000 in
theorem s_Mo_agree_3 (cx : z_cx zTab g d p l e R s m args below meth c prog_8_method_13_code "SealedTalksModel" 11) (hn : meth.name = "agree") (hf : z_fin g p l e R s m args below meth c Q prog_8_method_13_code P none) : ∀ x ∈ k_Mo_agree_3, z_sn zTab g d p l e R s m args below meth c Q 11 P x := by
  unfold k_Mo_agree_3
  refine z_k (S_iload cx (by decide +kernel)) ?_
  refine z_k (S_iadd cx (by decide +kernel)) ?_
  refine z_k (S_goto cx (off := 12) (by decide +kernel) (by decide)) ?_
  refine z_k (S_sipush cx (n := 256) (by decide +kernel) (by decide)) ?_
  refine z_k (S_iload cx (by decide +kernel)) ?_
  refine z_k (S_imul cx (by decide +kernel)) ?_
  refine z_k (S_iload cx (by decide +kernel)) ?_
  refine z_k (S_iadd cx (by decide +kernel)) ?_
  refine z_k (S_push cx (n := 0) (by decide +kernel) (by decide)) ?_
  refine z_k (S_push cx (n := 0) (by decide +kernel) (by decide)) ?_
  refine z_k (S_push cx (n := 0) (by decide +kernel) (by decide)) ?_
  refine z_k (S_callV cx (T := F_Mo) (N := 43) (r := r_Mo_term) rfl ⟨w_674, w_4, by decide, by decide +kernel⟩ w_671 w_673 wp_14 rfl (by decide +kernel)) ?_
  refine z_k (S_istore cx (by decide) (by decide +kernel)) ?_
  refine z_k (S_aload_n cx (k := 0) (by decide +kernel) rfl) ?_
  refine z_k (S_getf cx (T := F_Mo) (N := 43) (k := 33) rfl in_Mo (by decide) rfl w_561 (by decide +kernel)) ?_
  refine z_k (S_istore cx (by decide) (by decide +kernel)) ?_
  refine z_k (S_aload_n cx (k := 0) (by decide +kernel) rfl) ?_
  refine z_k (S_aload_n cx (k := 0) (by decide +kernel) rfl) ?_
  refine z_k (S_bipush cx (n := 6) (by decide +kernel) (by decide)) ?_
  refine z_k (S_iload cx (by decide +kernel)) ?_
  refine z_k (S_iload cx (by decide +kernel)) ?_
  refine z_k (S_callV cx (T := F_Mo) (N := 43) (r := r_Mo_two) rfl ⟨w_678, w_4, by decide, by decide +kernel⟩ w_675 w_677 wp_15 rfl (by decide +kernel)) ?_
  refine z_k (S_putf cx (T := F_Mo) (N := 43) (k := 34) (ty := t_Mo) rfl in_Mo t_Mo_ok n_Mo (by decide) rfl w_562 rfl (Or.inl ⟨rfl, rfl⟩) (by decide +kernel)) ?_
  refine z_k (S_aload_n cx (k := 0) (by decide +kernel) rfl) ?_
  exact z_k0
set_option maxRecDepth 100000 in
set_option maxHeartbeats 4000000 in
theorem s_Mo_agree_4 (cx : z_cx zTab g d p l e R s m args below meth c prog_8_method_13_code "SealedTalksModel" 11) (hn : meth.name = "agree") (hf : z_fin g p l e R s m args below meth c Q prog_8_method_13_code P none) : ∀ x ∈ k_Mo_agree_4, z_sn zTab g d p l e R s m args below meth c Q 11 P x := by
  unfold k_Mo_agree_4
  refine z_k (S_aload_n cx (k := 0) (by decide +kernel) rfl) ?_
  refine z_k (S_push cx (n := 5) (by decide +kernel) (by decide)) ?_
  refine z_k (S_iload cx (by decide +kernel)) ?_
  refine z_k (S_iload cx (by decide +kernel)) ?_
  refine z_k (S_callV cx (T := F_Mo) (N := 43) (r := r_Mo_two) rfl ⟨w_678, w_4, by decide, by decide +kernel⟩ w_675 w_677 wp_15 rfl (by decide +kernel)) ?_
  refine z_k (S_putf cx (T := F_Mo) (N := 43) (k := 33) (ty := t_Mo) rfl in_Mo t_Mo_ok n_Mo (by decide) rfl w_561 rfl (Or.inl ⟨rfl, rfl⟩) (by decide +kernel)) ?_
  refine z_k (S_aload_n cx (k := 0) (by decide +kernel) rfl) ?_
  refine z_k (S_push cx (n := 0) (by decide +kernel) (by decide)) ?_
  refine z_k (S_putf cx (T := F_Mo) (N := 43) (k := 35) (ty := t_Mo) rfl in_Mo t_Mo_ok n_Mo (by decide) rfl w_563 rfl (Or.inl ⟨rfl, rfl⟩) (by decide +kernel)) ?_
  refine z_k (S_vret (hf.1 rfl) (by decide +kernel)) ?_
  exact z_k0
theorem s_Mo_agree : z_snd zTab r_Mo_agree := ⟨by decide +kernel, w_724, fun g d p l e R s m args below meth c Q P cx hn hf => z_k (s_Mo_agree_0 cx hn hf) (z_k (s_Mo_agree_1 cx hn hf) (z_k (s_Mo_agree_2 cx hn hf) (z_k (s_Mo_agree_3 cx hn hf) (z_k (s_Mo_agree_4 cx hn hf) (z_k0)))))⟩
set_option maxRecDepth 100000 in
set_option maxHeartbeats 4000000 in
theorem s_Mo_addPart_0 (cx : z_cx zTab g d p l e R s m args below meth c prog_8_method_14_code "SealedTalksModel" 2) (hn : meth.name = "addPart") (hf : z_fin g p l e R s m args below meth c Q prog_8_method_14_code P none) : ∀ x ∈ k_Mo_addPart_0, z_sn zTab g d p l e R s m args below meth c Q 2 P x := by
  unfold k_Mo_addPart_0
  refine z_k (S_aload_n cx (k := 0) (by decide +kernel) rfl) ?_
  refine z_k (S_getf cx (T := F_Mo) (N := 43) (k := 40) rfl in_Mo (by decide) rfl w_568 (by decide +kernel)) ?_
  refine z_k (S_aload_n cx (k := 0) (by decide +kernel) rfl) ?_
  refine z_k (S_getf cx (T := F_Mo) (N := 43) (k := 39) rfl in_Mo (by decide) rfl w_567 (by decide +kernel)) ?_
  refine z_k (S_iload_n cx (k := 1) (by decide +kernel) rfl) ?_
  refine z_k (S_iast cx (by decide +kernel)) ?_
  refine z_k (S_aload_n cx (k := 0) (by decide +kernel) rfl) ?_
  refine z_k (S_dup cx (by decide +kernel)) ?_
  refine z_k (S_getf cx (T := F_Mo) (N := 43) (k := 39) rfl in_Mo (by decide) rfl w_567 (by decide +kernel)) ?_
  refine z_k (S_push cx (n := 1) (by decide +kernel) (by decide)) ?_
  refine z_k (S_iadd cx (by decide +kernel)) ?_
  refine z_k (S_putf cx (T := F_Mo) (N := 43) (k := 39) (ty := t_Mo) rfl in_Mo t_Mo_ok n_Mo (by decide) rfl w_567 rfl (Or.inl ⟨rfl, rfl⟩) (by decide +kernel)) ?_
  refine z_k (S_aload_n cx (k := 0) (by decide +kernel) rfl) ?_
  refine z_k (S_iload_n cx (k := 1) (by decide +kernel) rfl) ?_
  refine z_k (S_callV cx (T := F_Mo) (N := 43) (r := r_Mo_mixHash) rfl ⟨w_716, w_4, by decide, by decide +kernel⟩ w_713 w_715 wp_22 rfl (by decide +kernel)) ?_
  refine z_k (S_vret (hf.1 rfl) (by decide +kernel)) ?_
  exact z_k0
theorem s_Mo_addPart : z_snd zTab r_Mo_addPart := ⟨by decide +kernel, w_712, fun g d p l e R s m args below meth c Q P cx hn hf => z_k (s_Mo_addPart_0 cx hn hf) (z_k0)⟩
set_option maxRecDepth 100000 in
set_option maxHeartbeats 4000000 in
theorem s_Mo_put_0 (cx : z_cx zTab g d p l e R s m args below meth c prog_8_method_15_code "SealedTalksModel" 3) (hn : meth.name = "put") (hf : z_fin g p l e R s m args below meth c Q prog_8_method_15_code P none) : ∀ x ∈ k_Mo_put_0, z_sn zTab g d p l e R s m args below meth c Q 3 P x := by
  unfold k_Mo_put_0
  refine z_k (S_aload_n cx (k := 0) (by decide +kernel) rfl) ?_
  refine z_k (S_getf cx (T := F_Mo) (N := 43) (k := 34) rfl in_Mo (by decide) rfl w_562 (by decide +kernel)) ?_
  refine z_k (S_if_ge cx (off := 11) (by decide +kernel) (by decide)) ?_
  refine z_k (S_aload_n cx (k := 0) (by decide +kernel) rfl) ?_
  refine z_k (S_iload_n cx (k := 1) (by decide +kernel) rfl) ?_
  refine z_k (S_callV cx (T := F_Mo) (N := 43) (r := r_Mo_addPart) rfl ⟨w_712, w_4, by decide, by decide +kernel⟩ w_709 w_711 wp_21 rfl (by decide +kernel)) ?_
  refine z_k (S_goto cx (off := 38) (by decide +kernel) (by decide)) ?_
  refine z_k (S_aload_n cx (k := 0) (by decide +kernel) rfl) ?_
  refine z_k (S_bipush cx (n := 8) (by decide +kernel) (by decide)) ?_
  refine z_k (S_aload_n cx (k := 0) (by decide +kernel) rfl) ?_
  refine z_k (S_getf cx (T := F_Mo) (N := 43) (k := 35) rfl in_Mo (by decide) rfl w_563 (by decide +kernel)) ?_
  refine z_k (S_aload_n cx (k := 0) (by decide +kernel) rfl) ?_
  refine z_k (S_getf cx (T := F_Mo) (N := 43) (k := 34) rfl in_Mo (by decide) rfl w_562 (by decide +kernel)) ?_
  refine z_k (S_aload_n cx (k := 0) (by decide +kernel) rfl) ?_
  refine z_k (S_getf cx (T := F_Mo) (N := 43) (k := 32) rfl in_Mo (by decide) rfl w_560 (by decide +kernel)) ?_
  refine z_k (S_iload_n cx (k := 1) (by decide +kernel) rfl) ?_
  refine z_k (S_callV cx (T := F_Mo) (N := 43) (r := r_Mo_term) rfl ⟨w_674, w_4, by decide, by decide +kernel⟩ w_671 w_673 wp_14 rfl (by decide +kernel)) ?_
  refine z_k (S_istore_n cx (by decide) (k := 2) (by decide +kernel) rfl) ?_
  refine z_k (S_aload_n cx (k := 0) (by decide +kernel) rfl) ?_
  refine z_k (S_dup cx (by decide +kernel)) ?_
  refine z_k (S_getf cx (T := F_Mo) (N := 43) (k := 35) rfl in_Mo (by decide) rfl w_563 (by decide +kernel)) ?_
  refine z_k (S_push cx (n := 1) (by decide +kernel) (by decide)) ?_
  refine z_k (S_iadd cx (by decide +kernel)) ?_
  refine z_k (S_putf cx (T := F_Mo) (N := 43) (k := 35) (ty := t_Mo) rfl in_Mo t_Mo_ok n_Mo (by decide) rfl w_563 rfl (Or.inl ⟨rfl, rfl⟩) (by decide +kernel)) ?_
  exact z_k0
set_option maxRecDepth 100000 in
set_option maxHeartbeats 4000000 in
theorem s_Mo_put_1 (cx : z_cx zTab g d p l e R s m args below meth c prog_8_method_15_code "SealedTalksModel" 3) (hn : meth.name = "put") (hf : z_fin g p l e R s m args below meth c Q prog_8_method_15_code P none) : ∀ x ∈ k_Mo_put_1, z_sn zTab g d p l e R s m args below meth c Q 3 P x := by
  unfold k_Mo_put_1
  refine z_k (S_aload_n cx (k := 0) (by decide +kernel) rfl) ?_
  refine z_k (S_iload_n cx (k := 2) (by decide +kernel) rfl) ?_
  refine z_k (S_callV cx (T := F_Mo) (N := 43) (r := r_Mo_addPart) rfl ⟨w_712, w_4, by decide, by decide +kernel⟩ w_709 w_711 wp_21 rfl (by decide +kernel)) ?_
  refine z_k (S_vret (hf.1 rfl) (by decide +kernel)) ?_
  exact z_k0
theorem s_Mo_put : z_snd zTab r_Mo_put := ⟨by decide +kernel, w_720, fun g d p l e R s m args below meth c Q P cx hn hf => z_k (s_Mo_put_0 cx hn hf) (z_k (s_Mo_put_1 cx hn hf) (z_k0))⟩
set_option maxRecDepth 100000 in
set_option maxHeartbeats 4000000 in
theorem s_Mo_nextPart_0 (cx : z_cx zTab g d p l e R s m args below meth c prog_8_method_16_code "SealedTalksModel" 1) (hn : meth.name = "nextPart") (hf : z_fin g p l e R s m args below meth c Q prog_8_method_16_code P (some .int)) : ∀ x ∈ k_Mo_nextPart_0, z_sn zTab g d p l e R s m args below meth c Q 1 P x := by
  unfold k_Mo_nextPart_0
  refine z_k (S_aload_n cx (k := 0) (by decide +kernel) rfl) ?_
  refine z_k (S_dup cx (by decide +kernel)) ?_
  refine z_k (S_getf cx (T := F_Mo) (N := 43) (k := 41) rfl in_Mo (by decide) rfl w_569 (by decide +kernel)) ?_
  refine z_k (S_push cx (n := 1) (by decide +kernel) (by decide)) ?_
  refine z_k (S_iadd cx (by decide +kernel)) ?_
  refine z_k (S_putf cx (T := F_Mo) (N := 43) (k := 41) (ty := t_Mo) rfl in_Mo t_Mo_ok n_Mo (by decide) rfl w_569 rfl (Or.inl ⟨rfl, rfl⟩) (by decide +kernel)) ?_
  refine z_k (S_aload_n cx (k := 0) (by decide +kernel) rfl) ?_
  refine z_k (S_getf cx (T := F_Mo) (N := 43) (k := 41) rfl in_Mo (by decide) rfl w_569 (by decide +kernel)) ?_
  refine z_k (S_aload_n cx (k := 0) (by decide +kernel) rfl) ?_
  refine z_k (S_getf cx (T := F_Mo) (N := 43) (k := 39) rfl in_Mo (by decide) rfl w_567 (by decide +kernel)) ?_
  refine z_k (S_icmp_gt cx (off := 17) (by decide +kernel) (by decide)) ?_
  refine z_k (S_aload_n cx (k := 0) (by decide +kernel) rfl) ?_
  refine z_k (S_getf cx (T := F_Mo) (N := 43) (k := 40) rfl in_Mo (by decide) rfl w_568 (by decide +kernel)) ?_
  refine z_k (S_aload_n cx (k := 0) (by decide +kernel) rfl) ?_
  refine z_k (S_getf cx (T := F_Mo) (N := 43) (k := 41) rfl in_Mo (by decide) rfl w_569 (by decide +kernel)) ?_
  refine z_k (S_push cx (n := 1) (by decide +kernel) (by decide)) ?_
  refine z_k (S_isub cx (by decide +kernel)) ?_
  refine z_k (S_iald cx (by decide +kernel)) ?_
  refine z_k (S_goto cx (off := 4) (by decide +kernel) (by decide)) ?_
  refine z_k (S_push cx (n := -1) (by decide +kernel) (by decide)) ?_
  refine z_k (S_iret (hf.2.1 rfl) (by decide +kernel)) ?_
  exact z_k0
theorem s_Mo_nextPart : z_snd zTab r_Mo_nextPart := ⟨by decide +kernel, w_760, fun g d p l e R s m args below meth c Q P cx hn hf => z_k (s_Mo_nextPart_0 cx hn hf) (z_k0)⟩
set_option maxRecDepth 100000 in
set_option maxHeartbeats 4000000 in
theorem s_Mo_take_0 (cx : z_cx zTab g d p l e R s m args below meth c prog_8_method_17_code "SealedTalksModel" 4) (hn : meth.name = "take") (hf : z_fin g p l e R s m args below meth c Q prog_8_method_17_code P (some .int)) : ∀ x ∈ k_Mo_take_0, z_sn zTab g d p l e R s m args below meth c Q 4 P x := by
  unfold k_Mo_take_0
  refine z_k (S_aload_n cx (k := 0) (by decide +kernel) rfl) ?_
  refine z_k (S_callV cx (T := F_Mo) (N := 43) (r := r_Mo_nextPart) rfl ⟨w_760, w_4, by decide, by decide +kernel⟩ w_757 w_759 wp_32 rfl (by decide +kernel)) ?_
  refine z_k (S_istore_n cx (by decide) (k := 2) (by decide +kernel) rfl) ?_
  refine z_k (S_iload_n cx (k := 2) (by decide +kernel) rfl) ?_
  refine z_k (S_if_lt cx (off := 60) (by decide +kernel) (by decide)) ?_
  refine z_k (S_aload_n cx (k := 0) (by decide +kernel) rfl) ?_
  refine z_k (S_getf cx (T := F_Mo) (N := 43) (k := 34) rfl in_Mo (by decide) rfl w_562 (by decide +kernel)) ?_
  refine z_k (S_if_lt cx (off := 60) (by decide +kernel) (by decide)) ?_
  refine z_k (S_aload_n cx (k := 0) (by decide +kernel) rfl) ?_
  refine z_k (S_getf cx (T := F_Mo) (N := 43) (k := 1) rfl in_Mo (by decide) rfl w_529 (by decide +kernel)) ?_
  refine z_k (S_iload_n cx (k := 2) (by decide +kernel) rfl) ?_
  refine z_k (S_bald cx (by decide +kernel)) ?_
  refine z_k (S_bipush cx (n := 8) (by decide +kernel) (by decide)) ?_
  refine z_k (S_icmp_ne cx (off := 42) (by decide +kernel) (by decide)) ?_
  refine z_k (S_aload_n cx (k := 0) (by decide +kernel) rfl) ?_
  refine z_k (S_getf cx (T := F_Mo) (N := 43) (k := 3) rfl in_Mo (by decide) rfl w_531 (by decide +kernel)) ?_
  refine z_k (S_iload_n cx (k := 2) (by decide +kernel) rfl) ?_
  refine z_k (S_sald cx (by decide +kernel)) ?_
  refine z_k (S_aload_n cx (k := 0) (by decide +kernel) rfl) ?_
  refine z_k (S_getf cx (T := F_Mo) (N := 43) (k := 34) rfl in_Mo (by decide) rfl w_562 (by decide +kernel)) ?_
  refine z_k (S_icmp_ne cx (off := 29) (by decide +kernel) (by decide)) ?_
  refine z_k (S_aload_n cx (k := 0) (by decide +kernel) rfl) ?_
  refine z_k (S_getf cx (T := F_Mo) (N := 43) (k := 2) rfl in_Mo (by decide) rfl w_530 (by decide +kernel)) ?_
  refine z_k (S_iload_n cx (k := 2) (by decide +kernel) rfl) ?_
  exact z_k0
set_option maxRecDepth 100000 in
set_option maxHeartbeats 4000000 in
theorem s_Mo_take_1 (cx : z_cx zTab g d p l e R s m args below meth c prog_8_method_17_code "SealedTalksModel" 4) (hn : meth.name = "take") (hf : z_fin g p l e R s m args below meth c Q prog_8_method_17_code P (some .int)) : ∀ x ∈ k_Mo_take_1, z_sn zTab g d p l e R s m args below meth c Q 4 P x := by
  unfold k_Mo_take_1
  refine z_k (S_iald cx (by decide +kernel)) ?_
  refine z_k (S_aload_n cx (k := 0) (by decide +kernel) rfl) ?_
  refine z_k (S_getf cx (T := F_Mo) (N := 43) (k := 35) rfl in_Mo (by decide) rfl w_563 (by decide +kernel)) ?_
  refine z_k (S_icmp_ne cx (off := 16) (by decide +kernel) (by decide)) ?_
  refine z_k (S_aload_n cx (k := 0) (by decide +kernel) rfl) ?_
  refine z_k (S_getf cx (T := F_Mo) (N := 43) (k := 4) rfl in_Mo (by decide) rfl w_532 (by decide +kernel)) ?_
  refine z_k (S_iload_n cx (k := 2) (by decide +kernel) rfl) ?_
  refine z_k (S_sald cx (by decide +kernel)) ?_
  refine z_k (S_aload_n cx (k := 0) (by decide +kernel) rfl) ?_
  refine z_k (S_getf cx (T := F_Mo) (N := 43) (k := 32) rfl in_Mo (by decide) rfl w_560 (by decide +kernel)) ?_
  refine z_k (S_icmp_eq cx (off := 10) (by decide +kernel) (by decide)) ?_
  refine z_k (S_aload_n cx (k := 0) (by decide +kernel) rfl) ?_
  refine z_k (S_push cx (n := 1) (by decide +kernel) (by decide)) ?_
  refine z_k (S_putf cx (T := F_Mo) (N := 43) (k := 42) (ty := t_Mo) rfl in_Mo t_Mo_ok n_Mo (by decide) rfl w_570 rfl (Or.inr (Or.inl ⟨rfl, rfl⟩)) (by decide +kernel)) ?_
  refine z_k (S_push cx (n := -1) (by decide +kernel) (by decide)) ?_
  refine z_k (S_iret (hf.2.1 rfl) (by decide +kernel)) ?_
  refine z_k (S_aload_n cx (k := 0) (by decide +kernel) rfl) ?_
  refine z_k (S_getf cx (T := F_Mo) (N := 43) (k := 34) rfl in_Mo (by decide) rfl w_562 (by decide +kernel)) ?_
  refine z_k (S_if_ge cx (off := 7) (by decide +kernel) (by decide)) ?_
  refine z_k (S_iload_n cx (k := 2) (by decide +kernel) rfl) ?_
  refine z_k (S_goto cx (off := 9) (by decide +kernel) (by decide)) ?_
  refine z_k (S_aload_n cx (k := 0) (by decide +kernel) rfl) ?_
  refine z_k (S_getf cx (T := F_Mo) (N := 43) (k := 5) rfl in_Mo (by decide) rfl w_533 (by decide +kernel)) ?_
  refine z_k (S_iload_n cx (k := 2) (by decide +kernel) rfl) ?_
  exact z_k0
set_option maxRecDepth 100000 in
set_option maxHeartbeats 4000000 in
theorem s_Mo_take_2 (cx : z_cx zTab g d p l e R s m args below meth c prog_8_method_17_code "SealedTalksModel" 4) (hn : meth.name = "take") (hf : z_fin g p l e R s m args below meth c Q prog_8_method_17_code P (some .int)) : ∀ x ∈ k_Mo_take_2, z_sn zTab g d p l e R s m args below meth c Q 4 P x := by
  unfold k_Mo_take_2
  refine z_k (S_sald cx (by decide +kernel)) ?_
  refine z_k (S_istore_n cx (by decide) (k := 3) (by decide +kernel) rfl) ?_
  refine z_k (S_aload_n cx (k := 0) (by decide +kernel) rfl) ?_
  refine z_k (S_aload_n cx (k := 0) (by decide +kernel) rfl) ?_
  refine z_k (S_getf cx (T := F_Mo) (N := 43) (k := 34) rfl in_Mo (by decide) rfl w_562 (by decide +kernel)) ?_
  refine z_k (S_if_ge cx (off := 10) (by decide +kernel) (by decide)) ?_
  refine z_k (S_aload_n cx (k := 0) (by decide +kernel) rfl) ?_
  refine z_k (S_getf cx (T := F_Mo) (N := 43) (k := 35) rfl in_Mo (by decide) rfl w_563 (by decide +kernel)) ?_
  refine z_k (S_goto cx (off := 9) (by decide +kernel) (by decide)) ?_
  refine z_k (S_aload_n cx (k := 0) (by decide +kernel) rfl) ?_
  refine z_k (S_getf cx (T := F_Mo) (N := 43) (k := 35) rfl in_Mo (by decide) rfl w_563 (by decide +kernel)) ?_
  refine z_k (S_push cx (n := 1) (by decide +kernel) (by decide)) ?_
  refine z_k (S_iadd cx (by decide +kernel)) ?_
  refine z_k (S_putf cx (T := F_Mo) (N := 43) (k := 35) (ty := t_Mo) rfl in_Mo t_Mo_ok n_Mo (by decide) rfl w_563 rfl (Or.inl ⟨rfl, rfl⟩) (by decide +kernel)) ?_
  refine z_k (S_aload_n cx (k := 0) (by decide +kernel) rfl) ?_
  refine z_k (S_iload_n cx (k := 2) (by decide +kernel) rfl) ?_
  refine z_k (S_callV cx (T := F_Mo) (N := 43) (r := r_Mo_mixHash) rfl ⟨w_716, w_4, by decide, by decide +kernel⟩ w_713 w_715 wp_22 rfl (by decide +kernel)) ?_
  refine z_k (S_aload_n cx (k := 0) (by decide +kernel) rfl) ?_
  refine z_k (S_aload_n cx (k := 0) (by decide +kernel) rfl) ?_
  refine z_k (S_getf cx (T := F_Mo) (N := 43) (k := 42) rfl in_Mo (by decide) rfl w_570 (by decide +kernel)) ?_
  refine z_k (S_if_ne cx (off := 13) (by decide +kernel) (by decide)) ?_
  refine z_k (S_aload_n cx (k := 0) (by decide +kernel) rfl) ?_
  refine z_k (S_getf cx (T := F_Mo) (N := 43) (k := 1) rfl in_Mo (by decide) rfl w_529 (by decide +kernel)) ?_
  refine z_k (S_iload_n cx (k := 3) (by decide +kernel) rfl) ?_
  exact z_k0
set_option maxRecDepth 100000 in
set_option maxHeartbeats 4000000 in
theorem s_Mo_take_3 (cx : z_cx zTab g d p l e R s m args below meth c prog_8_method_17_code "SealedTalksModel" 4) (hn : meth.name = "take") (hf : z_fin g p l e R s m args below meth c Q prog_8_method_17_code P (some .int)) : ∀ x ∈ k_Mo_take_3, z_sn zTab g d p l e R s m args below meth c Q 4 P x := by
  unfold k_Mo_take_3
  refine z_k (S_bald cx (by decide +kernel)) ?_
  refine z_k (S_iload_n cx (k := 1) (by decide +kernel) rfl) ?_
  refine z_k (S_icmp_eq cx (off := 7) (by decide +kernel) (by decide)) ?_
  refine z_k (S_push cx (n := 1) (by decide +kernel) (by decide)) ?_
  refine z_k (S_goto cx (off := 4) (by decide +kernel) (by decide)) ?_
  refine z_k (S_push cx (n := 0) (by decide +kernel) (by decide)) ?_
  refine z_k (S_putf cx (T := F_Mo) (N := 43) (k := 42) (ty := t_Mo) rfl in_Mo t_Mo_ok n_Mo (by decide) rfl w_570 rfl (Or.inr (Or.inl ⟨rfl, rfl⟩)) (by decide +kernel)) ?_
  refine z_k (S_iload_n cx (k := 3) (by decide +kernel) rfl) ?_
  refine z_k (S_iret (hf.2.1 rfl) (by decide +kernel)) ?_
  exact z_k0
theorem s_Mo_take : z_snd zTab r_Mo_take := ⟨by decide +kernel, w_764, fun g d p l e R s m args below meth c Q P cx hn hf => z_k (s_Mo_take_0 cx hn hf) (z_k (s_Mo_take_1 cx hn hf) (z_k (s_Mo_take_2 cx hn hf) (z_k (s_Mo_take_3 cx hn hf) (z_k0))))⟩
set_option maxRecDepth 100000 in
set_option maxHeartbeats 4000000 in
theorem s_Mo_start_0 (cx : z_cx zTab g d p l e R s m args below meth c prog_8_method_18_code "SealedTalksModel" 9) (hn : meth.name = "start") (hf : z_fin g p l e R s m args below meth c Q prog_8_method_18_code P (some .int)) : ∀ x ∈ k_Mo_start_0, z_sn zTab g d p l e R s m args below meth c Q 9 P x := by
  unfold k_Mo_start_0
  refine z_k (S_iload_n cx (k := 1) (by decide +kernel) rfl) ?_
  refine z_k (S_push cx (n := 0) (by decide +kernel) (by decide)) ?_
  refine z_k (S_push cx (n := 1) (by decide +kernel) (by decide)) ?_
  refine z_k (S_callS cx (r := r_Mo_within) rfl ⟨w_666, w_4, by decide, by decide +kernel⟩ w_664 w_665 (by decide +kernel)) ?_
  refine z_k (S_if_eq cx (off := 33) (by decide +kernel) (by decide)) ?_
  refine z_k (S_iload_n cx (k := 3) (by decide +kernel) rfl) ?_
  refine z_k (S_push cx (n := 1) (by decide +kernel) (by decide)) ?_
  refine z_k (S_bipush cx (n := 8) (by decide +kernel) (by decide)) ?_
  refine z_k (S_callS cx (r := r_Mo_within) rfl ⟨w_666, w_4, by decide, by decide +kernel⟩ w_664 w_665 (by decide +kernel)) ?_
  refine z_k (S_if_eq cx (off := 23) (by decide +kernel) (by decide)) ?_
  refine z_k (S_iload_n cx (k := 2) (by decide +kernel) rfl) ?_
  refine z_k (S_if_eq cx (off := 21) (by decide +kernel) (by decide)) ?_
  refine z_k (S_iload_n cx (k := 1) (by decide +kernel) rfl) ?_
  refine z_k (S_push cx (n := 1) (by decide +kernel) (by decide)) ?_
  refine z_k (S_icmp_ne cx (off := 16) (by decide +kernel) (by decide)) ?_
  refine z_k (S_iload cx (by decide +kernel)) ?_
  refine z_k (S_push cx (n := 1) (by decide +kernel) (by decide)) ?_
  refine z_k (S_bipush cx (n := 8) (by decide +kernel) (by decide)) ?_
  refine z_k (S_callS cx (r := r_Mo_within) rfl ⟨w_666, w_4, by decide, by decide +kernel⟩ w_664 w_665 (by decide +kernel)) ?_
  refine z_k (S_if_ne cx (off := 5) (by decide +kernel) (by decide)) ?_
  refine z_k (S_push cx (n := -1) (by decide +kernel) (by decide)) ?_
  refine z_k (S_iret (hf.2.1 rfl) (by decide +kernel)) ?_
  refine z_k (S_aload_n cx (k := 0) (by decide +kernel) rfl) ?_
  refine z_k (S_getf cx (T := F_Mo) (N := 43) (k := 12) rfl in_Mo (by decide) rfl w_540 (by decide +kernel)) ?_
  exact z_k0
set_option maxRecDepth 100000 in
set_option maxHeartbeats 4000000 in
theorem s_Mo_start_1 (cx : z_cx zTab g d p l e R s m args below meth c prog_8_method_18_code "SealedTalksModel" 9) (hn : meth.name = "start") (hf : z_fin g p l e R s m args below meth c Q prog_8_method_18_code P (some .int)) : ∀ x ∈ k_Mo_start_1, z_sn zTab g d p l e R s m args below meth c Q 9 P x := by
  unfold k_Mo_start_1
  refine z_k (S_bipush cx (n := 12) (by decide +kernel) (by decide)) ?_
  refine z_k (S_icmp_ne cx (off := 6) (by decide +kernel) (by decide)) ?_
  refine z_k (S_bipush cx (n := -4) (by decide +kernel) (by decide)) ?_
  refine z_k (S_iret (hf.2.1 rfl) (by decide +kernel)) ?_
  refine z_k (S_aload_n cx (k := 0) (by decide +kernel) rfl) ?_
  refine z_k (S_getf cx (T := F_Mo) (N := 43) (k := 12) rfl in_Mo (by decide) rfl w_540 (by decide +kernel)) ?_
  refine z_k (S_istore cx (by decide) (by decide +kernel)) ?_
  refine z_k (S_aload_n cx (k := 0) (by decide +kernel) rfl) ?_
  refine z_k (S_dup cx (by decide +kernel)) ?_
  refine z_k (S_getf cx (T := F_Mo) (N := 43) (k := 12) rfl in_Mo (by decide) rfl w_540 (by decide +kernel)) ?_
  refine z_k (S_push cx (n := 1) (by decide +kernel) (by decide)) ?_
  refine z_k (S_iadd cx (by decide +kernel)) ?_
  refine z_k (S_putf cx (T := F_Mo) (N := 43) (k := 12) (ty := t_Mo) rfl in_Mo t_Mo_ok n_Mo (by decide) rfl w_540 rfl (Or.inl ⟨rfl, rfl⟩) (by decide +kernel)) ?_
  refine z_k (S_aload_n cx (k := 0) (by decide +kernel) rfl) ?_
  refine z_k (S_getf cx (T := F_Mo) (N := 43) (k := 13) rfl in_Mo (by decide) rfl w_541 (by decide +kernel)) ?_
  refine z_k (S_iload cx (by decide +kernel)) ?_
  refine z_k (S_iload_n cx (k := 1) (by decide +kernel) rfl) ?_
  refine z_k (S_iast cx (by decide +kernel)) ?_
  refine z_k (S_aload_n cx (k := 0) (by decide +kernel) rfl) ?_
  refine z_k (S_getf cx (T := F_Mo) (N := 43) (k := 14) rfl in_Mo (by decide) rfl w_542 (by decide +kernel)) ?_
  refine z_k (S_iload cx (by decide +kernel)) ?_
  refine z_k (S_iload_n cx (k := 2) (by decide +kernel) rfl) ?_
  refine z_k (S_zast cx (by decide +kernel)) ?_
  refine z_k (S_aload_n cx (k := 0) (by decide +kernel) rfl) ?_
  exact z_k0
set_option maxRecDepth 100000 in
set_option maxHeartbeats 4000000 in
theorem s_Mo_start_2 (cx : z_cx zTab g d p l e R s m args below meth c prog_8_method_18_code "SealedTalksModel" 9) (hn : meth.name = "start") (hf : z_fin g p l e R s m args below meth c Q prog_8_method_18_code P (some .int)) : ∀ x ∈ k_Mo_start_2, z_sn zTab g d p l e R s m args below meth c Q 9 P x := by
  unfold k_Mo_start_2
  refine z_k (S_getf cx (T := F_Mo) (N := 43) (k := 15) rfl in_Mo (by decide) rfl w_543 (by decide +kernel)) ?_
  refine z_k (S_iload cx (by decide +kernel)) ?_
  refine z_k (S_iload_n cx (k := 3) (by decide +kernel) rfl) ?_
  refine z_k (S_iast cx (by decide +kernel)) ?_
  refine z_k (S_aload_n cx (k := 0) (by decide +kernel) rfl) ?_
  refine z_k (S_getf cx (T := F_Mo) (N := 43) (k := 18) rfl in_Mo (by decide) rfl w_546 (by decide +kernel)) ?_
  refine z_k (S_iload cx (by decide +kernel)) ?_
  refine z_k (S_iload_n cx (k := 2) (by decide +kernel) rfl) ?_
  refine z_k (S_if_eq cx (off := 13) (by decide +kernel) (by decide)) ?_
  refine z_k (S_iload_n cx (k := 1) (by decide +kernel) rfl) ?_
  refine z_k (S_push cx (n := 1) (by decide +kernel) (by decide)) ?_
  refine z_k (S_icmp_ne cx (off := 8) (by decide +kernel) (by decide)) ?_
  refine z_k (S_iload cx (by decide +kernel)) ?_
  refine z_k (S_goto cx (off := 4) (by decide +kernel) (by decide)) ?_
  refine z_k (S_push cx (n := 0) (by decide +kernel) (by decide)) ?_
  refine z_k (S_iast cx (by decide +kernel)) ?_
  refine z_k (S_aload_n cx (k := 0) (by decide +kernel) rfl) ?_
  refine z_k (S_getf cx (T := F_Mo) (N := 43) (k := 20) rfl in_Mo (by decide) rfl w_548 (by decide +kernel)) ?_
  refine z_k (S_iload cx (by decide +kernel)) ?_
  refine z_k (S_aload_n cx (k := 0) (by decide +kernel) rfl) ?_
  refine z_k (S_iload_n cx (k := 1) (by decide +kernel) rfl) ?_
  refine z_k (S_callV cx (T := F_Mo) (N := 43) (r := r_Mo_num) rfl ⟨w_670, w_4, by decide, by decide +kernel⟩ w_667 w_669 wp_13 rfl (by decide +kernel)) ?_
  refine z_k (S_iast cx (by decide +kernel)) ?_
  refine z_k (S_aload_n cx (k := 0) (by decide +kernel) rfl) ?_
  exact z_k0
set_option maxRecDepth 100000 in
set_option maxHeartbeats 4000000 in
theorem s_Mo_start_3 (cx : z_cx zTab g d p l e R s m args below meth c prog_8_method_18_code "SealedTalksModel" 9) (hn : meth.name = "start") (hf : z_fin g p l e R s m args below meth c Q prog_8_method_18_code P (some .int)) : ∀ x ∈ k_Mo_start_3, z_sn zTab g d p l e R s m args below meth c Q 9 P x := by
  unfold k_Mo_start_3
  refine z_k (S_iload cx (by decide +kernel)) ?_
  refine z_k (S_callV cx (T := F_Mo) (N := 43) (r := r_Mo_num) rfl ⟨w_670, w_4, by decide, by decide +kernel⟩ w_667 w_669 wp_13 rfl (by decide +kernel)) ?_
  refine z_k (S_istore cx (by decide) (by decide +kernel)) ?_
  refine z_k (S_aload_n cx (k := 0) (by decide +kernel) rfl) ?_
  refine z_k (S_getf cx (T := F_Mo) (N := 43) (k := 19) rfl in_Mo (by decide) rfl w_547 (by decide +kernel)) ?_
  refine z_k (S_iload cx (by decide +kernel)) ?_
  refine z_k (S_aload_n cx (k := 0) (by decide +kernel) rfl) ?_
  refine z_k (S_push cx (n := 4) (by decide +kernel) (by decide)) ?_
  refine z_k (S_aload_n cx (k := 0) (by decide +kernel) rfl) ?_
  refine z_k (S_getf cx (T := F_Mo) (N := 43) (k := 20) rfl in_Mo (by decide) rfl w_548 (by decide +kernel)) ?_
  refine z_k (S_iload cx (by decide +kernel)) ?_
  refine z_k (S_iald cx (by decide +kernel)) ?_
  refine z_k (S_iload cx (by decide +kernel)) ?_
  refine z_k (S_callV cx (T := F_Mo) (N := 43) (r := r_Mo_two) rfl ⟨w_678, w_4, by decide, by decide +kernel⟩ w_675 w_677 wp_15 rfl (by decide +kernel)) ?_
  refine z_k (S_iast cx (by decide +kernel)) ?_
  refine z_k (S_iload_n cx (k := 1) (by decide +kernel) rfl) ?_
  refine z_k (S_push cx (n := 1) (by decide +kernel) (by decide)) ?_
  refine z_k (S_icmp_ne cx (off := 40) (by decide +kernel) (by decide)) ?_
  refine z_k (S_aload_n cx (k := 0) (by decide +kernel) rfl) ?_
  refine z_k (S_iload_n cx (k := 2) (by decide +kernel) rfl) ?_
  refine z_k (S_if_eq cx (off := 8) (by decide +kernel) (by decide)) ?_
  refine z_k (S_iload cx (by decide +kernel)) ?_
  refine z_k (S_goto cx (off := 4) (by decide +kernel) (by decide)) ?_
  refine z_k (S_iload_n cx (k := 3) (by decide +kernel) rfl) ?_
  exact z_k0
set_option maxRecDepth 100000 in
set_option maxHeartbeats 4000000 in
theorem s_Mo_start_4 (cx : z_cx zTab g d p l e R s m args below meth c prog_8_method_18_code "SealedTalksModel" 9) (hn : meth.name = "start") (hf : z_fin g p l e R s m args below meth c Q prog_8_method_18_code P (some .int)) : ∀ x ∈ k_Mo_start_4, z_sn zTab g d p l e R s m args below meth c Q 9 P x := by
  unfold k_Mo_start_4
  refine z_k (S_callV cx (T := F_Mo) (N := 43) (r := r_Mo_pub) rfl ⟨w_682, w_4, by decide, by decide +kernel⟩ w_679 w_681 wp_16 rfl (by decide +kernel)) ?_
  refine z_k (S_istore cx (by decide) (by decide +kernel)) ?_
  refine z_k (S_aload_n cx (k := 0) (by decide +kernel) rfl) ?_
  refine z_k (S_getf cx (T := F_Mo) (N := 43) (k := 19) rfl in_Mo (by decide) rfl w_547 (by decide +kernel)) ?_
  refine z_k (S_iload cx (by decide +kernel)) ?_
  refine z_k (S_aload_n cx (k := 0) (by decide +kernel) rfl) ?_
  refine z_k (S_push cx (n := 4) (by decide +kernel) (by decide)) ?_
  refine z_k (S_aload_n cx (k := 0) (by decide +kernel) rfl) ?_
  refine z_k (S_getf cx (T := F_Mo) (N := 43) (k := 19) rfl in_Mo (by decide) rfl w_547 (by decide +kernel)) ?_
  refine z_k (S_iload cx (by decide +kernel)) ?_
  refine z_k (S_iald cx (by decide +kernel)) ?_
  refine z_k (S_iload cx (by decide +kernel)) ?_
  refine z_k (S_callV cx (T := F_Mo) (N := 43) (r := r_Mo_two) rfl ⟨w_678, w_4, by decide, by decide +kernel⟩ w_675 w_677 wp_15 rfl (by decide +kernel)) ?_
  refine z_k (S_iast cx (by decide +kernel)) ?_
  refine z_k (S_aload_n cx (k := 0) (by decide +kernel) rfl) ?_
  refine z_k (S_getf cx (T := F_Mo) (N := 43) (k := 21) rfl in_Mo (by decide) rfl w_549 (by decide +kernel)) ?_
  refine z_k (S_iload cx (by decide +kernel)) ?_
  refine z_k (S_push cx (n := -1) (by decide +kernel) (by decide)) ?_
  refine z_k (S_iast cx (by decide +kernel)) ?_
  refine z_k (S_aload_n cx (k := 0) (by decide +kernel) rfl) ?_
  refine z_k (S_getf cx (T := F_Mo) (N := 43) (k := 29) rfl in_Mo (by decide) rfl w_557 (by decide +kernel)) ?_
  refine z_k (S_iload cx (by decide +kernel)) ?_
  refine z_k (S_push cx (n := -1) (by decide +kernel) (by decide)) ?_
  refine z_k (S_iast cx (by decide +kernel)) ?_
  exact z_k0
set_option maxRecDepth 100000 in
set_option maxHeartbeats 4000000 in
theorem s_Mo_start_5 (cx : z_cx zTab g d p l e R s m args below meth c prog_8_method_18_code "SealedTalksModel" 9) (hn : meth.name = "start") (hf : z_fin g p l e R s m args below meth c Q prog_8_method_18_code P (some .int)) : ∀ x ∈ k_Mo_start_5, z_sn zTab g d p l e R s m args below meth c Q 9 P x := by
  unfold k_Mo_start_5
  refine z_k (S_iload cx (by decide +kernel)) ?_
  refine z_k (S_iret (hf.2.1 rfl) (by decide +kernel)) ?_
  exact z_k0
theorem s_Mo_start : z_snd zTab r_Mo_start := ⟨by decide +kernel, w_663, fun g d p l e R s m args below meth c Q P cx hn hf => z_k (s_Mo_start_0 cx hn hf) (z_k (s_Mo_start_1 cx hn hf) (z_k (s_Mo_start_2 cx hn hf) (z_k (s_Mo_start_3 cx hn hf) (z_k (s_Mo_start_4 cx hn hf) (z_k (s_Mo_start_5 cx hn hf) (z_k0))))))⟩
set_option maxRecDepth 100000 in
set_option maxHeartbeats 4000000 in
theorem s_Mo_isSession_0 (cx : z_cx zTab g d p l e R s m args below meth c prog_8_method_19_code "SealedTalksModel" 2) (hn : meth.name = "isSession") (hf : z_fin g p l e R s m args below meth c Q prog_8_method_19_code P (some .boolean)) : ∀ x ∈ k_Mo_isSession_0, z_sn zTab g d p l e R s m args below meth c Q 2 P x := by
  unfold k_Mo_isSession_0
  refine z_k (S_iload_n cx (k := 1) (by decide +kernel) rfl) ?_
  refine z_k (S_push cx (n := 0) (by decide +kernel) (by decide)) ?_
  refine z_k (S_aload_n cx (k := 0) (by decide +kernel) rfl) ?_
  refine z_k (S_getf cx (T := F_Mo) (N := 43) (k := 12) rfl in_Mo (by decide) rfl w_540 (by decide +kernel)) ?_
  refine z_k (S_push cx (n := 1) (by decide +kernel) (by decide)) ?_
  refine z_k (S_isub cx (by decide +kernel)) ?_
  refine z_k (S_callS cx (r := r_Mo_within) rfl ⟨w_666, w_4, by decide, by decide +kernel⟩ w_664 w_665 (by decide +kernel)) ?_
  refine z_k (S_zret (hf.2.2.1 rfl) (by decide +kernel)) ?_
  exact z_k0
theorem s_Mo_isSession : z_snd zTab r_Mo_isSession := ⟨by decide +kernel, w_690, fun g d p l e R s m args below meth c Q P cx hn hf => z_k (s_Mo_isSession_0 cx hn hf) (z_k0)⟩
set_option maxRecDepth 100000 in
set_option maxHeartbeats 4000000 in
theorem s_Mo_isDone_0 (cx : z_cx zTab g d p l e R s m args below meth c prog_8_method_20_code "SealedTalksModel" 2) (hn : meth.name = "isDone") (hf : z_fin g p l e R s m args below meth c Q prog_8_method_20_code P (some .boolean)) : ∀ x ∈ k_Mo_isDone_0, z_sn zTab g d p l e R s m args below meth c Q 2 P x := by
  unfold k_Mo_isDone_0
  refine z_k (S_aload_n cx (k := 0) (by decide +kernel) rfl) ?_
  refine z_k (S_getf cx (T := F_Mo) (N := 43) (k := 23) rfl in_Mo (by decide) rfl w_551 (by decide +kernel)) ?_
  refine z_k (S_iload_n cx (k := 1) (by decide +kernel) rfl) ?_
  refine z_k (S_iald cx (by decide +kernel)) ?_
  refine z_k (S_aload_n cx (k := 0) (by decide +kernel) rfl) ?_
  refine z_k (S_getf cx (T := F_Mo) (N := 43) (k := 13) rfl in_Mo (by decide) rfl w_541 (by decide +kernel)) ?_
  refine z_k (S_iload_n cx (k := 1) (by decide +kernel) rfl) ?_
  refine z_k (S_iald cx (by decide +kernel)) ?_
  refine z_k (S_callS cx (r := r_Mo_last) rfl ⟨w_697, w_4, by decide, by decide +kernel⟩ w_695 w_696 (by decide +kernel)) ?_
  refine z_k (S_icmp_ne cx (off := 7) (by decide +kernel) (by decide)) ?_
  refine z_k (S_push cx (n := 1) (by decide +kernel) (by decide)) ?_
  refine z_k (S_goto cx (off := 4) (by decide +kernel) (by decide)) ?_
  refine z_k (S_push cx (n := 0) (by decide +kernel) (by decide)) ?_
  refine z_k (S_zret (hf.2.2.1 rfl) (by decide +kernel)) ?_
  exact z_k0
theorem s_Mo_isDone : z_snd zTab r_Mo_isDone := ⟨by decide +kernel, w_694, fun g d p l e R s m args below meth c Q P cx hn hf => z_k (s_Mo_isDone_0 cx hn hf) (z_k0)⟩
set_option maxRecDepth 100000 in
set_option maxHeartbeats 4000000 in
theorem s_Mo_writes_0 (cx : z_cx zTab g d p l e R s m args below meth c prog_8_method_21_code "SealedTalksModel" 2) (hn : meth.name = "writes") (hf : z_fin g p l e R s m args below meth c Q prog_8_method_21_code P (some .boolean)) : ∀ x ∈ k_Mo_writes_0, z_sn zTab g d p l e R s m args below meth c Q 2 P x := by
  unfold k_Mo_writes_0
  refine z_k (S_aload_n cx (k := 0) (by decide +kernel) rfl) ?_
  refine z_k (S_getf cx (T := F_Mo) (N := 43) (k := 23) rfl in_Mo (by decide) rfl w_551 (by decide +kernel)) ?_
  refine z_k (S_iload_n cx (k := 1) (by decide +kernel) rfl) ?_
  refine z_k (S_iald cx (by decide +kernel)) ?_
  refine z_k (S_push cx (n := 2) (by decide +kernel) (by decide)) ?_
  refine z_k (S_irem cx (by decide +kernel)) ?_
  refine z_k (S_if_ne cx (off := 7) (by decide +kernel) (by decide)) ?_
  refine z_k (S_push cx (n := 1) (by decide +kernel) (by decide)) ?_
  refine z_k (S_goto cx (off := 4) (by decide +kernel) (by decide)) ?_
  refine z_k (S_push cx (n := 0) (by decide +kernel) (by decide)) ?_
  refine z_k (S_aload_n cx (k := 0) (by decide +kernel) rfl) ?_
  refine z_k (S_getf cx (T := F_Mo) (N := 43) (k := 14) rfl in_Mo (by decide) rfl w_542 (by decide +kernel)) ?_
  refine z_k (S_iload_n cx (k := 1) (by decide +kernel) rfl) ?_
  refine z_k (S_zald cx (by decide +kernel)) ?_
  refine z_k (S_icmp_ne cx (off := 7) (by decide +kernel) (by decide)) ?_
  refine z_k (S_push cx (n := 1) (by decide +kernel) (by decide)) ?_
  refine z_k (S_goto cx (off := 4) (by decide +kernel) (by decide)) ?_
  refine z_k (S_push cx (n := 0) (by decide +kernel) (by decide)) ?_
  refine z_k (S_zret (hf.2.2.1 rfl) (by decide +kernel)) ?_
  exact z_k0
theorem s_Mo_writes : z_snd zTab r_Mo_writes := ⟨by decide +kernel, w_701, fun g d p l e R s m args below meth c Q P cx hn hf => z_k (s_Mo_writes_0 cx hn hf) (z_k0)⟩
set_option maxRecDepth 100000 in
set_option maxHeartbeats 4000000 in
theorem s_Mo_newMessage_0 (cx : z_cx zTab g d p l e R s m args below meth c prog_8_method_22_code "SealedTalksModel" 3) (hn : meth.name = "newMessage") (hf : z_fin g p l e R s m args below meth c Q prog_8_method_22_code P (some .int)) : ∀ x ∈ k_Mo_newMessage_0, z_sn zTab g d p l e R s m args below meth c Q 3 P x := by
  unfold k_Mo_newMessage_0
  refine z_k (S_aload_n cx (k := 0) (by decide +kernel) rfl) ?_
  refine z_k (S_getf cx (T := F_Mo) (N := 43) (k := 8) rfl in_Mo (by decide) rfl w_536 (by decide +kernel)) ?_
  refine z_k (S_aload_n cx (k := 0) (by decide +kernel) rfl) ?_
  refine z_k (S_getf cx (T := F_Mo) (N := 43) (k := 7) rfl in_Mo (by decide) rfl w_535 (by decide +kernel)) ?_
  refine z_k (S_iload_n cx (k := 1) (by decide +kernel) rfl) ?_
  refine z_k (S_iast cx (by decide +kernel)) ?_
  refine z_k (S_push cx (n := 0) (by decide +kernel) (by decide)) ?_
  refine z_k (S_istore_n cx (by decide) (k := 2) (by decide +kernel) rfl) ?_
  refine z_k (S_iload_n cx (k := 2) (by decide +kernel) rfl) ?_
  refine z_k (S_iload_n cx (k := 1) (by decide +kernel) rfl) ?_
  refine z_k (S_icmp_ge cx (off := 28) (by decide +kernel) (by decide)) ?_
  refine z_k (S_aload_n cx (k := 0) (by decide +kernel) rfl) ?_
  refine z_k (S_getf cx (T := F_Mo) (N := 43) (k := 9) rfl in_Mo (by decide) rfl w_537 (by decide +kernel)) ?_
  refine z_k (S_push cx (n := 3) (by decide +kernel) (by decide)) ?_
  refine z_k (S_aload_n cx (k := 0) (by decide +kernel) rfl) ?_
  refine z_k (S_getf cx (T := F_Mo) (N := 43) (k := 7) rfl in_Mo (by decide) rfl w_535 (by decide +kernel)) ?_
  refine z_k (S_imul cx (by decide +kernel)) ?_
  refine z_k (S_iload_n cx (k := 2) (by decide +kernel) rfl) ?_
  refine z_k (S_iadd cx (by decide +kernel)) ?_
  refine z_k (S_aload_n cx (k := 0) (by decide +kernel) rfl) ?_
  refine z_k (S_getf cx (T := F_Mo) (N := 43) (k := 40) rfl in_Mo (by decide) rfl w_568 (by decide +kernel)) ?_
  refine z_k (S_iload_n cx (k := 2) (by decide +kernel) rfl) ?_
  refine z_k (S_iald cx (by decide +kernel)) ?_
  refine z_k (S_iast cx (by decide +kernel)) ?_
  exact z_k0
set_option maxRecDepth 100000 in
set_option maxHeartbeats 4000000 in
theorem s_Mo_newMessage_1 (cx : z_cx zTab g d p l e R s m args below meth c prog_8_method_22_code "SealedTalksModel" 3) (hn : meth.name = "newMessage") (hf : z_fin g p l e R s m args below meth c Q prog_8_method_22_code P (some .int)) : ∀ x ∈ k_Mo_newMessage_1, z_sn zTab g d p l e R s m args below meth c Q 3 P x := by
  unfold k_Mo_newMessage_1
  refine z_k (S_iinc cx (n := 1) (by decide) (by decide +kernel) (by decide)) ?_
  refine z_k (S_goto cx (off := -27) (by decide +kernel) (by decide)) ?_
  refine z_k (S_aload_n cx (k := 0) (by decide +kernel) rfl) ?_
  refine z_k (S_dup cx (by decide +kernel)) ?_
  refine z_k (S_getf cx (T := F_Mo) (N := 43) (k := 7) rfl in_Mo (by decide) rfl w_535 (by decide +kernel)) ?_
  refine z_k (S_push cx (n := 1) (by decide +kernel) (by decide)) ?_
  refine z_k (S_iadd cx (by decide +kernel)) ?_
  refine z_k (S_putf cx (T := F_Mo) (N := 43) (k := 7) (ty := t_Mo) rfl in_Mo t_Mo_ok n_Mo (by decide) rfl w_535 rfl (Or.inl ⟨rfl, rfl⟩) (by decide +kernel)) ?_
  refine z_k (S_aload_n cx (k := 0) (by decide +kernel) rfl) ?_
  refine z_k (S_getf cx (T := F_Mo) (N := 43) (k := 7) rfl in_Mo (by decide) rfl w_535 (by decide +kernel)) ?_
  refine z_k (S_push cx (n := 1) (by decide +kernel) (by decide)) ?_
  refine z_k (S_isub cx (by decide +kernel)) ?_
  refine z_k (S_iret (hf.2.1 rfl) (by decide +kernel)) ?_
  exact z_k0
theorem s_Mo_newMessage : z_snd zTab r_Mo_newMessage := ⟨by decide +kernel, w_732, fun g d p l e R s m args below meth c Q P cx hn hf => z_k (s_Mo_newMessage_0 cx hn hf) (z_k (s_Mo_newMessage_1 cx hn hf) (z_k0))⟩
end ZR41
